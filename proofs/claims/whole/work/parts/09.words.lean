theorem w_1114 : Cond.methodLink RX12 1 Lib.objectInit ∈ xtb := in_xtb (i := 1114) (by decide +kernel) rfl
theorem w_84 : Cond.arrayClass .int ∈ xtb := in_xtb (i := 84) (by decide +kernel) rfl
theorem w_1116 : Cond.fieldLink RX12 7 "ReadersRoomModel" "came" "[I" ∈ xtb := in_xtb (i := 1116) (by decide +kernel) rfl
theorem lk_X12_7 {y : MethodName} (hy : y.cls = RX12) : xLk y 7 14 1 := ⟨xc14, by decide, "ReadersRoomModel", (by rw [hy]; exact w_1116), Or.inl rfl⟩
theorem w_1120 : Cond.fieldLink RX12 13 "ReadersRoomModel" "sizes" "[I" ∈ xtb := in_xtb (i := 1120) (by decide +kernel) rfl
theorem lk_X12_13 {y : MethodName} (hy : y.cls = RX12) : xLk y 13 14 5 := ⟨xc14, by decide, "ReadersRoomModel", (by rw [hy]; exact w_1120), Or.inl rfl⟩
theorem w_1121 : Cond.fieldLink RX12 16 "ReadersRoomModel" "rows" "[I" ∈ xtb := in_xtb (i := 1121) (by decide +kernel) rfl
theorem lk_X12_16 {y : MethodName} (hy : y.cls = RX12) : xLk y 16 14 6 := ⟨xc14, by decide, "ReadersRoomModel", (by rw [hy]; exact w_1121), Or.inl rfl⟩
theorem w_1122 : Cond.fieldLink RX12 19 "ReadersRoomModel" "copied" "[I" ∈ xtb := in_xtb (i := 1122) (by decide +kernel) rfl
theorem lk_X12_19 {y : MethodName} (hy : y.cls = RX12) : xLk y 19 14 7 := ⟨xc14, by decide, "ReadersRoomModel", (by rw [hy]; exact w_1122), Or.inl rfl⟩
theorem w_1123 : Cond.fieldLink RX12 22 "ReadersRoomModel" "textSizes" "[I" ∈ xtb := in_xtb (i := 1123) (by decide +kernel) rfl
theorem lk_X12_22 {y : MethodName} (hy : y.cls = RX12) : xLk y 22 14 8 := ⟨xc14, by decide, "ReadersRoomModel", (by rw [hy]; exact w_1123), Or.inl rfl⟩
theorem w_1326 : Cond.arrayClass .byte ∈ xtb := in_xtb (i := 1326) (by decide +kernel) rfl
theorem w_1124 : Cond.fieldLink RX12 25 "ReadersRoomModel" "bytes" "[B" ∈ xtb := in_xtb (i := 1124) (by decide +kernel) rfl
theorem lk_X12_25 {y : MethodName} (hy : y.cls = RX12) : xLk y 25 14 9 := ⟨xc14, by decide, "ReadersRoomModel", (by rw [hy]; exact w_1124), Or.inl rfl⟩
theorem w_1129 : Cond.fieldLink RX12 29 "ReadersRoomModel" "markOf" "[I" ∈ xtb := in_xtb (i := 1129) (by decide +kernel) rfl
theorem lk_X12_29 {y : MethodName} (hy : y.cls = RX12) : xLk y 29 14 14 := ⟨xc14, by decide, "ReadersRoomModel", (by rw [hy]; exact w_1129), Or.inl rfl⟩
theorem w_1130 : Cond.fieldLink RX12 32 "ReadersRoomModel" "shelfOf" "[I" ∈ xtb := in_xtb (i := 1130) (by decide +kernel) rfl
theorem lk_X12_32 {y : MethodName} (hy : y.cls = RX12) : xLk y 32 14 15 := ⟨xc14, by decide, "ReadersRoomModel", (by rw [hy]; exact w_1130), Or.inl rfl⟩
theorem w_1327 : Cond.arrayClass .boolean ∈ xtb := in_xtb (i := 1327) (by decide +kernel) rfl
theorem w_1131 : Cond.fieldLink RX12 35 "ReadersRoomModel" "isRare" "[Z" ∈ xtb := in_xtb (i := 1131) (by decide +kernel) rfl
theorem lk_X12_35 {y : MethodName} (hy : y.cls = RX12) : xLk y 35 14 16 := ⟨xc14, by decide, "ReadersRoomModel", (by rw [hy]; exact w_1131), Or.inl rfl⟩
theorem w_1132 : Cond.fieldLink RX12 39 "ReadersRoomModel" "kindOf" "[I" ∈ xtb := in_xtb (i := 1132) (by decide +kernel) rfl
theorem lk_X12_39 {y : MethodName} (hy : y.cls = RX12) : xLk y 39 14 17 := ⟨xc14, by decide, "ReadersRoomModel", (by rw [hy]; exact w_1132), Or.inl rfl⟩
theorem w_1133 : Cond.fieldLink RX12 42 "ReadersRoomModel" "believed" "[I" ∈ xtb := in_xtb (i := 1133) (by decide +kernel) rfl
theorem lk_X12_42 {y : MethodName} (hy : y.cls = RX12) : xLk y 42 14 18 := ⟨xc14, by decide, "ReadersRoomModel", (by rw [hy]; exact w_1133), Or.inl rfl⟩
theorem w_1134 : Cond.fieldLink RX12 45 "ReadersRoomModel" "whoOf" "[I" ∈ xtb := in_xtb (i := 1134) (by decide +kernel) rfl
theorem lk_X12_45 {y : MethodName} (hy : y.cls = RX12) : xLk y 45 14 19 := ⟨xc14, by decide, "ReadersRoomModel", (by rw [hy]; exact w_1134), Or.inl rfl⟩
theorem w_1135 : Cond.fieldLink RX12 48 "ReadersRoomModel" "whenOf" "[I" ∈ xtb := in_xtb (i := 1135) (by decide +kernel) rfl
theorem lk_X12_48 {y : MethodName} (hy : y.cls = RX12) : xLk y 48 14 20 := ⟨xc14, by decide, "ReadersRoomModel", (by rw [hy]; exact w_1135), Or.inl rfl⟩
theorem w_1136 : Cond.fieldLink RX12 51 "ReadersRoomModel" "slipOf" "[I" ∈ xtb := in_xtb (i := 1136) (by decide +kernel) rfl
theorem lk_X12_51 {y : MethodName} (hy : y.cls = RX12) : xLk y 51 14 21 := ⟨xc14, by decide, "ReadersRoomModel", (by rw [hy]; exact w_1136), Or.inl rfl⟩
theorem w_1138 : Cond.fieldLink RX12 54 "ReadersRoomModel" "hadBook" "[I" ∈ xtb := in_xtb (i := 1138) (by decide +kernel) rfl
theorem lk_X12_54 {y : MethodName} (hy : y.cls = RX12) : xLk y 54 14 23 := ⟨xc14, by decide, "ReadersRoomModel", (by rw [hy]; exact w_1138), Or.inl rfl⟩
theorem w_1139 : Cond.fieldLink RX12 57 "ReadersRoomModel" "hadReader" "[I" ∈ xtb := in_xtb (i := 1139) (by decide +kernel) rfl
theorem lk_X12_57 {y : MethodName} (hy : y.cls = RX12) : xLk y 57 14 24 := ⟨xc14, by decide, "ReadersRoomModel", (by rw [hy]; exact w_1139), Or.inl rfl⟩
theorem w_1140 : Cond.fieldLink RX12 60 "ReadersRoomModel" "hadFrom" "[I" ∈ xtb := in_xtb (i := 1140) (by decide +kernel) rfl
theorem lk_X12_60 {y : MethodName} (hy : y.cls = RX12) : xLk y 60 14 25 := ⟨xc14, by decide, "ReadersRoomModel", (by rw [hy]; exact w_1140), Or.inl rfl⟩
theorem w_1141 : Cond.fieldLink RX12 63 "ReadersRoomModel" "hadTill" "[I" ∈ xtb := in_xtb (i := 1141) (by decide +kernel) rfl
theorem lk_X12_63 {y : MethodName} (hy : y.cls = RX12) : xLk y 63 14 26 := ⟨xc14, by decide, "ReadersRoomModel", (by rw [hy]; exact w_1141), Or.inl rfl⟩
theorem w_1143 : Cond.fieldLink RX12 66 "ReadersRoomModel" "ruleTold" "[I" ∈ xtb := in_xtb (i := 1143) (by decide +kernel) rfl
theorem lk_X12_66 {y : MethodName} (hy : y.cls = RX12) : xLk y 66 14 28 := ⟨xc14, by decide, "ReadersRoomModel", (by rw [hy]; exact w_1143), Or.inl rfl⟩
theorem w_1144 : Cond.fieldLink RX12 69 "ReadersRoomModel" "ruleFrom" "[I" ∈ xtb := in_xtb (i := 1144) (by decide +kernel) rfl
theorem lk_X12_69 {y : MethodName} (hy : y.cls = RX12) : xLk y 69 14 29 := ⟨xc14, by decide, "ReadersRoomModel", (by rw [hy]; exact w_1144), Or.inl rfl⟩
theorem w_1145 : Cond.fieldLink RX12 72 "ReadersRoomModel" "ruleNumbers" "[I" ∈ xtb := in_xtb (i := 1145) (by decide +kernel) rfl
theorem lk_X12_72 {y : MethodName} (hy : y.cls = RX12) : xLk y 72 14 30 := ⟨xc14, by decide, "ReadersRoomModel", (by rw [hy]; exact w_1145), Or.inl rfl⟩
theorem w_1146 : Cond.fieldLink RX12 75 "ReadersRoomModel" "readNumbers" "[I" ∈ xtb := in_xtb (i := 1146) (by decide +kernel) rfl
theorem lk_X12_75 {y : MethodName} (hy : y.cls = RX12) : xLk y 75 14 31 := ⟨xc14, by decide, "ReadersRoomModel", (by rw [hy]; exact w_1146), Or.inl rfl⟩
theorem w_1148 : Cond.fieldLink RX12 78 "ReadersRoomModel" "slipHow" "[I" ∈ xtb := in_xtb (i := 1148) (by decide +kernel) rfl
theorem lk_X12_78 {y : MethodName} (hy : y.cls = RX12) : xLk y 78 14 33 := ⟨xc14, by decide, "ReadersRoomModel", (by rw [hy]; exact w_1148), Or.inl rfl⟩
theorem w_1149 : Cond.fieldLink RX12 81 "ReadersRoomModel" "slipReader" "[I" ∈ xtb := in_xtb (i := 1149) (by decide +kernel) rfl
theorem lk_X12_81 {y : MethodName} (hy : y.cls = RX12) : xLk y 81 14 34 := ⟨xc14, by decide, "ReadersRoomModel", (by rw [hy]; exact w_1149), Or.inl rfl⟩
theorem w_1150 : Cond.fieldLink RX12 84 "ReadersRoomModel" "slipBook" "[I" ∈ xtb := in_xtb (i := 1150) (by decide +kernel) rfl
theorem lk_X12_84 {y : MethodName} (hy : y.cls = RX12) : xLk y 84 14 35 := ⟨xc14, by decide, "ReadersRoomModel", (by rw [hy]; exact w_1150), Or.inl rfl⟩
theorem w_1151 : Cond.fieldLink RX12 87 "ReadersRoomModel" "slipMinute" "[I" ∈ xtb := in_xtb (i := 1151) (by decide +kernel) rfl
theorem lk_X12_87 {y : MethodName} (hy : y.cls = RX12) : xLk y 87 14 36 := ⟨xc14, by decide, "ReadersRoomModel", (by rw [hy]; exact w_1151), Or.inl rfl⟩
theorem w_1152 : Cond.fieldLink RX12 90 "ReadersRoomModel" "slipEnd" "[I" ∈ xtb := in_xtb (i := 1152) (by decide +kernel) rfl
theorem lk_X12_90 {y : MethodName} (hy : y.cls = RX12) : xLk y 90 14 37 := ⟨xc14, by decide, "ReadersRoomModel", (by rw [hy]; exact w_1152), Or.inl rfl⟩
theorem w_1153 : Cond.fieldLink RX12 93 "ReadersRoomModel" "slipLoad" "[I" ∈ xtb := in_xtb (i := 1153) (by decide +kernel) rfl
theorem lk_X12_93 {y : MethodName} (hy : y.cls = RX12) : xLk y 93 14 38 := ⟨xc14, by decide, "ReadersRoomModel", (by rw [hy]; exact w_1153), Or.inl rfl⟩
theorem w_1154 : Cond.fieldLink RX12 96 "ReadersRoomModel" "paces" "[I" ∈ xtb := in_xtb (i := 1154) (by decide +kernel) rfl
theorem lk_X12_96 {y : MethodName} (hy : y.cls = RX12) : xLk y 96 14 39 := ⟨xc14, by decide, "ReadersRoomModel", (by rw [hy]; exact w_1154), Or.inl rfl⟩
theorem w_1155 : Cond.fieldLink RX12 99 "ReadersRoomModel" "freeAt" "[I" ∈ xtb := in_xtb (i := 1155) (by decide +kernel) rfl
theorem lk_X12_99 {y : MethodName} (hy : y.cls = RX12) : xLk y 99 14 40 := ⟨xc14, by decide, "ReadersRoomModel", (by rw [hy]; exact w_1155), Or.inl rfl⟩
theorem w_1157 : Cond.fieldLink RX12 102 "ReadersRoomModel" "lookBook" "[I" ∈ xtb := in_xtb (i := 1157) (by decide +kernel) rfl
theorem lk_X12_102 {y : MethodName} (hy : y.cls = RX12) : xLk y 102 14 42 := ⟨xc14, by decide, "ReadersRoomModel", (by rw [hy]; exact w_1157), Or.inl rfl⟩
theorem w_1158 : Cond.fieldLink RX12 105 "ReadersRoomModel" "lookMinute" "[I" ∈ xtb := in_xtb (i := 1158) (by decide +kernel) rfl
theorem lk_X12_105 {y : MethodName} (hy : y.cls = RX12) : xLk y 105 14 43 := ⟨xc14, by decide, "ReadersRoomModel", (by rw [hy]; exact w_1158), Or.inl rfl⟩
theorem w_1159 : Cond.fieldLink RX12 108 "ReadersRoomModel" "lookPresent" "[I" ∈ xtb := in_xtb (i := 1159) (by decide +kernel) rfl
theorem lk_X12_108 {y : MethodName} (hy : y.cls = RX12) : xLk y 108 14 44 := ⟨xc14, by decide, "ReadersRoomModel", (by rw [hy]; exact w_1159), Or.inl rfl⟩
theorem w_1160 : Cond.fieldLink RX12 111 "ReadersRoomModel" "then" "[I" ∈ xtb := in_xtb (i := 1160) (by decide +kernel) rfl
theorem lk_X12_111 {y : MethodName} (hy : y.cls = RX12) : xLk y 111 14 45 := ⟨xc14, by decide, "ReadersRoomModel", (by rw [hy]; exact w_1160), Or.inl rfl⟩
theorem w_1162 : Cond.fieldLink RX12 114 "ReadersRoomModel" "waits" "[I" ∈ xtb := in_xtb (i := 1162) (by decide +kernel) rfl
theorem lk_X12_114 {y : MethodName} (hy : y.cls = RX12) : xLk y 114 14 47 := ⟨xc14, by decide, "ReadersRoomModel", (by rw [hy]; exact w_1162), Or.inl rfl⟩
theorem w_1163 : Cond.fieldLink RX12 117 "ReadersRoomModel" "brings" "[I" ∈ xtb := in_xtb (i := 1163) (by decide +kernel) rfl
theorem lk_X12_117 {y : MethodName} (hy : y.cls = RX12) : xLk y 117 14 48 := ⟨xc14, by decide, "ReadersRoomModel", (by rw [hy]; exact w_1163), Or.inl rfl⟩
theorem w_1165 : Cond.fieldLink RX12 120 "ReadersRoomModel" "lineAge" "[I" ∈ xtb := in_xtb (i := 1165) (by decide +kernel) rfl
theorem lk_X12_120 {y : MethodName} (hy : y.cls = RX12) : xLk y 120 14 50 := ⟨xc14, by decide, "ReadersRoomModel", (by rw [hy]; exact w_1165), Or.inl rfl⟩
theorem w_1166 : Cond.fieldLink RX12 123 "ReadersRoomModel" "lineFrom" "[I" ∈ xtb := in_xtb (i := 1166) (by decide +kernel) rfl
theorem lk_X12_123 {y : MethodName} (hy : y.cls = RX12) : xLk y 123 14 51 := ⟨xc14, by decide, "ReadersRoomModel", (by rw [hy]; exact w_1166), Or.inl rfl⟩
theorem w_1167 : Cond.fieldLink RX12 126 "ReadersRoomModel" "lineTill" "[I" ∈ xtb := in_xtb (i := 1167) (by decide +kernel) rfl
theorem lk_X12_126 {y : MethodName} (hy : y.cls = RX12) : xLk y 126 14 52 := ⟨xc14, by decide, "ReadersRoomModel", (by rw [hy]; exact w_1167), Or.inl rfl⟩
theorem w_1168 : Cond.fieldLink RX12 129 "ReadersRoomModel" "lineShift" "[I" ∈ xtb := in_xtb (i := 1168) (by decide +kernel) rfl
theorem lk_X12_129 {y : MethodName} (hy : y.cls = RX12) : xLk y 129 14 53 := ⟨xc14, by decide, "ReadersRoomModel", (by rw [hy]; exact w_1168), Or.inl rfl⟩
theorem w_1169 : Cond.fieldLink RX12 132 "ReadersRoomModel" "lineOver" "[I" ∈ xtb := in_xtb (i := 1169) (by decide +kernel) rfl
theorem lk_X12_132 {y : MethodName} (hy : y.cls = RX12) : xLk y 132 14 54 := ⟨xc14, by decide, "ReadersRoomModel", (by rw [hy]; exact w_1169), Or.inl rfl⟩
theorem w_1170 : Cond.fieldLink RX12 135 "ReadersRoomModel" "lineTold" "[I" ∈ xtb := in_xtb (i := 1170) (by decide +kernel) rfl
theorem lk_X12_135 {y : MethodName} (hy : y.cls = RX12) : xLk y 135 14 55 := ⟨xc14, by decide, "ReadersRoomModel", (by rw [hy]; exact w_1170), Or.inl rfl⟩
theorem w_1171 : Cond.fieldLink RX12 138 "ReadersRoomModel" "lineGone" "[I" ∈ xtb := in_xtb (i := 1171) (by decide +kernel) rfl
theorem lk_X12_138 {y : MethodName} (hy : y.cls = RX12) : xLk y 138 14 56 := ⟨xc14, by decide, "ReadersRoomModel", (by rw [hy]; exact w_1171), Or.inl rfl⟩
theorem w_1172 : Cond.fieldLink RX12 141 "ReadersRoomModel" "mayBe" "[Z" ∈ xtb := in_xtb (i := 1172) (by decide +kernel) rfl
theorem lk_X12_141 {y : MethodName} (hy : y.cls = RX12) : xLk y 141 14 57 := ⟨xc14, by decide, "ReadersRoomModel", (by rw [hy]; exact w_1172), Or.inl rfl⟩
theorem w_1173 : Cond.fieldLink RX12 144 "ReadersRoomModel" "mayNext" "[Z" ∈ xtb := in_xtb (i := 1173) (by decide +kernel) rfl
theorem lk_X12_144 {y : MethodName} (hy : y.cls = RX12) : xLk y 144 14 58 := ⟨xc14, by decide, "ReadersRoomModel", (by rw [hy]; exact w_1173), Or.inl rfl⟩
theorem w_1328 : Cond.arrayClass .long ∈ xtb := in_xtb (i := 1328) (by decide +kernel) rfl
theorem w_1176 : Cond.fieldLink RX12 147 "ReadersRoomModel" "costs" "[J" ∈ xtb := in_xtb (i := 1176) (by decide +kernel) rfl
theorem lk_X12_147 {y : MethodName} (hy : y.cls = RX12) : xLk y 147 14 61 := ⟨xc14, by decide, "ReadersRoomModel", (by rw [hy]; exact w_1176), Or.inl rfl⟩
theorem w_1178 : Cond.fieldLink RX12 151 "ReadersRoomModel" "movedTo" "[I" ∈ xtb := in_xtb (i := 1178) (by decide +kernel) rfl
theorem lk_X12_151 {y : MethodName} (hy : y.cls = RX12) : xLk y 151 14 63 := ⟨xc14, by decide, "ReadersRoomModel", (by rw [hy]; exact w_1178), Or.inl rfl⟩
theorem w_1180 : Cond.fieldLink RX12 154 "ReadersRoomModel" "eyeFrom" "[I" ∈ xtb := in_xtb (i := 1180) (by decide +kernel) rfl
theorem lk_X12_154 {y : MethodName} (hy : y.cls = RX12) : xLk y 154 14 65 := ⟨xc14, by decide, "ReadersRoomModel", (by rw [hy]; exact w_1180), Or.inl rfl⟩
theorem w_1181 : Cond.fieldLink RX12 157 "ReadersRoomModel" "eyeTill" "[I" ∈ xtb := in_xtb (i := 1181) (by decide +kernel) rfl
theorem lk_X12_157 {y : MethodName} (hy : y.cls = RX12) : xLk y 157 14 66 := ⟨xc14, by decide, "ReadersRoomModel", (by rw [hy]; exact w_1181), Or.inl rfl⟩
theorem w_1119 : Cond.fieldLink RX12 160 "ReadersRoomModel" "lower" "J" ∈ xtb := in_xtb (i := 1119) (by decide +kernel) rfl
theorem lk_X12_160 {y : MethodName} (hy : y.cls = RX12) : xLk y 160 14 4 := ⟨xc14, by decide, "ReadersRoomModel", (by rw [hy]; exact w_1119), Or.inl rfl⟩
theorem w_1115 : Cond.fieldLink RX12 164 "ReadersRoomModel" "latest" "I" ∈ xtb := in_xtb (i := 1115) (by decide +kernel) rfl
theorem lk_X12_164 {y : MethodName} (hy : y.cls = RX12) : xLk y 164 14 0 := ⟨xc14, by decide, "ReadersRoomModel", (by rw [hy]; exact w_1115), Or.inl rfl⟩
theorem w_9 : Cond.initialized yX12_in.cls ∈ xtb := in_xtb (i := 9) (by decide +kernel) rfl
theorem w_1339 : Cond.code yX12_in cX12_in 3 (some .boolean) ∈ xtb := in_xtb (i := 1339) (by decide +kernel) rfl
theorem cb_X12_in : xCb yX12_in cX12_in 3 (some .boolean) 3 := ⟨w_9, w_1339, by decide, by decide, by decide +kernel⟩
theorem w_1338 : Cond.static yX12_in ∈ xtb := in_xtb (i := 1338) (by decide +kernel) rfl
theorem w_1337 : Cond.methodLink RX12 168 yX12_in ∈ xtb := in_xtb (i := 1337) (by decide +kernel) rfl
theorem w_1117 : Cond.fieldLink RX12 172 "ReadersRoomModel" "asked" "I" ∈ xtb := in_xtb (i := 1117) (by decide +kernel) rfl
theorem lk_X12_172 {y : MethodName} (hy : y.cls = RX12) : xLk y 172 14 2 := ⟨xc14, by decide, "ReadersRoomModel", (by rw [hy]; exact w_1117), Or.inl rfl⟩
theorem w_1118 : Cond.fieldLink RX12 175 "ReadersRoomModel" "upper" "J" ∈ xtb := in_xtb (i := 1118) (by decide +kernel) rfl
theorem lk_X12_175 {y : MethodName} (hy : y.cls = RX12) : xLk y 175 14 3 := ⟨xc14, by decide, "ReadersRoomModel", (by rw [hy]; exact w_1118), Or.inl rfl⟩
theorem w_1358 : Cond.code yX12_isRow cX12_isRow 1 (some .boolean) ∈ xtb := in_xtb (i := 1358) (by decide +kernel) rfl
theorem cb_X12_isRow : xCb yX12_isRow cX12_isRow 1 (some .boolean) 1 := ⟨w_9, w_1358, by decide, by decide, by decide +kernel⟩
theorem w_1357 : Cond.static yX12_isRow ∈ xtb := in_xtb (i := 1357) (by decide +kernel) rfl
theorem w_1356 : Cond.methodLink RX12 178 yX12_isRow ∈ xtb := in_xtb (i := 1356) (by decide +kernel) rfl
theorem w_1362 : Cond.code yX12_meets cX12_meets 2 (some .int) ∈ xtb := in_xtb (i := 1362) (by decide +kernel) rfl
theorem cb_X12_meets : xCb yX12_meets cX12_meets 2 (some .int) 1 := ⟨w_9, w_1362, by decide, by decide, by decide +kernel⟩
theorem w_1359 : Cond.methodLink RX12 182 yX12_meets ∈ xtb := in_xtb (i := 1359) (by decide +kernel) rfl
theorem w_1361 : Cond.instanceMethod yX12_meets ∈ xtb := in_xtb (i := 1361) (by decide +kernel) rfl
theorem v_49 : Cond.selects yX12_meets.cls yX12_meets yX12_meets ∈ xtb := in_priv (i := 49) (by decide +kernel) rfl
theorem w_1370 : Cond.code yX12_rowAt cX12_rowAt 3 (some .int) ∈ xtb := in_xtb (i := 1370) (by decide +kernel) rfl
theorem cb_X12_rowAt : xCb yX12_rowAt cX12_rowAt 3 (some .int) 2 := ⟨w_9, w_1370, by decide, by decide, by decide +kernel⟩
theorem w_1367 : Cond.methodLink RX12 186 yX12_rowAt ∈ xtb := in_xtb (i := 1367) (by decide +kernel) rfl
theorem w_1369 : Cond.instanceMethod yX12_rowAt ∈ xtb := in_xtb (i := 1369) (by decide +kernel) rfl
theorem v_50 : Cond.selects yX12_rowAt.cls yX12_rowAt yX12_rowAt ∈ xtb := in_priv (i := 50) (by decide +kernel) rfl
theorem w_1374 : Cond.code yX12_tells cX12_tells 3 (some .int) ∈ xtb := in_xtb (i := 1374) (by decide +kernel) rfl
theorem cb_X12_tells : xCb yX12_tells cX12_tells 3 (some .int) 2 := ⟨w_9, w_1374, by decide, by decide, by decide +kernel⟩
theorem w_1371 : Cond.methodLink RX12 190 yX12_tells ∈ xtb := in_xtb (i := 1371) (by decide +kernel) rfl
theorem w_1373 : Cond.instanceMethod yX12_tells ∈ xtb := in_xtb (i := 1373) (by decide +kernel) rfl
theorem v_51 : Cond.selects yX12_tells.cls yX12_tells yX12_tells ∈ xtb := in_priv (i := 51) (by decide +kernel) rfl
theorem w_1393 : Cond.code yX12_isText cX12_isText 1 (some .boolean) ∈ xtb := in_xtb (i := 1393) (by decide +kernel) rfl
theorem cb_X12_isText : xCb yX12_isText cX12_isText 1 (some .boolean) 1 := ⟨w_9, w_1393, by decide, by decide, by decide +kernel⟩
theorem w_1392 : Cond.static yX12_isText ∈ xtb := in_xtb (i := 1392) (by decide +kernel) rfl
theorem w_1391 : Cond.methodLink RX12 193 yX12_isText ∈ xtb := in_xtb (i := 1391) (by decide +kernel) rfl
theorem w_1125 : Cond.fieldLink RX12 196 "ReadersRoomModel" "number" "I" ∈ xtb := in_xtb (i := 1125) (by decide +kernel) rfl
theorem lk_X12_196 {y : MethodName} (hy : y.cls = RX12) : xLk y 196 14 10 := ⟨xc14, by decide, "ReadersRoomModel", (by rw [hy]; exact w_1125), Or.inl rfl⟩
theorem w_1126 : Cond.fieldLink RX12 199 "ReadersRoomModel" "ends" "I" ∈ xtb := in_xtb (i := 1126) (by decide +kernel) rfl
theorem lk_X12_199 {y : MethodName} (hy : y.cls = RX12) : xLk y 199 14 11 := ⟨xc14, by decide, "ReadersRoomModel", (by rw [hy]; exact w_1126), Or.inl rfl⟩
theorem w_1512 : Cond.code yX12_byteAt cX12_byteAt 3 (some .int) ∈ xtb := in_xtb (i := 1512) (by decide +kernel) rfl
theorem cb_X12_byteAt : xCb yX12_byteAt cX12_byteAt 3 (some .int) 2 := ⟨w_9, w_1512, by decide, by decide, by decide +kernel⟩
theorem w_1509 : Cond.methodLink RX12 202 yX12_byteAt ∈ xtb := in_xtb (i := 1509) (by decide +kernel) rfl
theorem w_1511 : Cond.instanceMethod yX12_byteAt ∈ xtb := in_xtb (i := 1511) (by decide +kernel) rfl
theorem v_67 : Cond.selects yX12_byteAt.cls yX12_byteAt yX12_byteAt ∈ xtb := in_priv (i := 67) (by decide +kernel) rfl
theorem w_1402 : Cond.constant RX12 205 99999 ∈ xtb := in_xtb (i := 1402) (by decide +kernel) rfl
theorem w_1128 : Cond.fieldLink RX12 206 "ReadersRoomModel" "bookMany" "I" ∈ xtb := in_xtb (i := 1128) (by decide +kernel) rfl
theorem lk_X12_206 {y : MethodName} (hy : y.cls = RX12) : xLk y 206 14 13 := ⟨xc14, by decide, "ReadersRoomModel", (by rw [hy]; exact w_1128), Or.inl rfl⟩
theorem w_1137 : Cond.fieldLink RX12 209 "ReadersRoomModel" "hadMany" "I" ∈ xtb := in_xtb (i := 1137) (by decide +kernel) rfl
theorem lk_X12_209 {y : MethodName} (hy : y.cls = RX12) : xLk y 209 14 22 := ⟨xc14, by decide, "ReadersRoomModel", (by rw [hy]; exact w_1137), Or.inl rfl⟩
theorem w_1127 : Cond.fieldLink RX12 212 "ReadersRoomModel" "now" "I" ∈ xtb := in_xtb (i := 1127) (by decide +kernel) rfl
theorem lk_X12_212 {y : MethodName} (hy : y.cls = RX12) : xLk y 212 14 12 := ⟨xc14, by decide, "ReadersRoomModel", (by rw [hy]; exact w_1127), Or.inl rfl⟩
theorem w_1410 : Cond.code yX12_hasNow cX12_hasNow 4 (none) ∈ xtb := in_xtb (i := 1410) (by decide +kernel) rfl
theorem cb_X12_hasNow : xCb yX12_hasNow cX12_hasNow 4 (none) 3 := ⟨w_9, w_1410, by decide, by decide, by decide +kernel⟩
theorem w_1407 : Cond.methodLink RX12 215 yX12_hasNow ∈ xtb := in_xtb (i := 1407) (by decide +kernel) rfl
theorem w_1409 : Cond.instanceMethod yX12_hasNow ∈ xtb := in_xtb (i := 1409) (by decide +kernel) rfl
theorem v_53 : Cond.selects yX12_hasNow.cls yX12_hasNow yX12_hasNow ∈ xtb := in_priv (i := 53) (by decide +kernel) rfl
theorem w_1414 : Cond.code yX12_comesHome cX12_comesHome 2 (none) ∈ xtb := in_xtb (i := 1414) (by decide +kernel) rfl
theorem cb_X12_comesHome : xCb yX12_comesHome cX12_comesHome 2 (none) 1 := ⟨w_9, w_1414, by decide, by decide, by decide +kernel⟩
theorem w_1411 : Cond.methodLink RX12 219 yX12_comesHome ∈ xtb := in_xtb (i := 1411) (by decide +kernel) rfl
theorem w_1413 : Cond.instanceMethod yX12_comesHome ∈ xtb := in_xtb (i := 1413) (by decide +kernel) rfl
theorem v_54 : Cond.selects yX12_comesHome.cls yX12_comesHome yX12_comesHome ∈ xtb := in_priv (i := 54) (by decide +kernel) rfl
theorem w_1418 : Cond.code yX12_hasNoMore cX12_hasNoMore 4 (none) ∈ xtb := in_xtb (i := 1418) (by decide +kernel) rfl
theorem cb_X12_hasNoMore : xCb yX12_hasNoMore cX12_hasNoMore 4 (none) 2 := ⟨w_9, w_1418, by decide, by decide, by decide +kernel⟩
theorem w_1415 : Cond.methodLink RX12 223 yX12_hasNoMore ∈ xtb := in_xtb (i := 1415) (by decide +kernel) rfl
theorem w_1417 : Cond.instanceMethod yX12_hasNoMore ∈ xtb := in_xtb (i := 1417) (by decide +kernel) rfl
theorem v_55 : Cond.selects yX12_hasNoMore.cls yX12_hasNoMore yX12_hasNoMore ∈ xtb := in_priv (i := 55) (by decide +kernel) rfl
theorem w_1406 : Cond.code yX12_goesOn cX12_goesOn 3 (none) ∈ xtb := in_xtb (i := 1406) (by decide +kernel) rfl
theorem cb_X12_goesOn : xCb yX12_goesOn cX12_goesOn 3 (none) 1 := ⟨w_9, w_1406, by decide, by decide, by decide +kernel⟩
theorem w_1403 : Cond.methodLink RX12 227 yX12_goesOn ∈ xtb := in_xtb (i := 1403) (by decide +kernel) rfl
theorem w_1405 : Cond.instanceMethod yX12_goesOn ∈ xtb := in_xtb (i := 1405) (by decide +kernel) rfl
theorem v_52 : Cond.selects yX12_goesOn.cls yX12_goesOn yX12_goesOn ∈ xtb := in_priv (i := 52) (by decide +kernel) rfl
theorem w_1425 : Cond.code yX12_isShelf cX12_isShelf 1 (some .boolean) ∈ xtb := in_xtb (i := 1425) (by decide +kernel) rfl
theorem cb_X12_isShelf : xCb yX12_isShelf cX12_isShelf 1 (some .boolean) 1 := ⟨w_9, w_1425, by decide, by decide, by decide +kernel⟩
theorem w_1424 : Cond.static yX12_isShelf ∈ xtb := in_xtb (i := 1424) (by decide +kernel) rfl
theorem w_1423 : Cond.methodLink RX12 230 yX12_isShelf ∈ xtb := in_xtb (i := 1423) (by decide +kernel) rfl
theorem w_1429 : Cond.code yX12_withMark cX12_withMark 3 (some .int) ∈ xtb := in_xtb (i := 1429) (by decide +kernel) rfl
theorem cb_X12_withMark : xCb yX12_withMark cX12_withMark 3 (some .int) 1 := ⟨w_9, w_1429, by decide, by decide, by decide +kernel⟩
theorem w_1426 : Cond.methodLink RX12 233 yX12_withMark ∈ xtb := in_xtb (i := 1426) (by decide +kernel) rfl
theorem w_1428 : Cond.instanceMethod yX12_withMark ∈ xtb := in_xtb (i := 1428) (by decide +kernel) rfl
theorem v_56 : Cond.selects yX12_withMark.cls yX12_withMark yX12_withMark ∈ xtb := in_priv (i := 56) (by decide +kernel) rfl
theorem w_1437 : Cond.code yX12_isBook cX12_isBook 2 (some .boolean) ∈ xtb := in_xtb (i := 1437) (by decide +kernel) rfl
theorem cb_X12_isBook : xCb yX12_isBook cX12_isBook 2 (some .boolean) 1 := ⟨w_9, w_1437, by decide, by decide, by decide +kernel⟩
theorem w_1434 : Cond.methodLink RX12 236 yX12_isBook ∈ xtb := in_xtb (i := 1434) (by decide +kernel) rfl
theorem w_1436 : Cond.instanceMethod yX12_isBook ∈ xtb := in_xtb (i := 1436) (by decide +kernel) rfl
theorem v_57 : Cond.selects yX12_isBook.cls yX12_isBook yX12_isBook ∈ xtb := in_priv (i := 57) (by decide +kernel) rfl
theorem w_1441 : Cond.code yX12_bookTold cX12_bookTold 3 (some .int) ∈ xtb := in_xtb (i := 1441) (by decide +kernel) rfl
theorem cb_X12_bookTold : xCb yX12_bookTold cX12_bookTold 3 (some .int) 2 := ⟨w_9, w_1441, by decide, by decide, by decide +kernel⟩
theorem w_1438 : Cond.methodLink RX12 239 yX12_bookTold ∈ xtb := in_xtb (i := 1438) (by decide +kernel) rfl
theorem w_1440 : Cond.instanceMethod yX12_bookTold ∈ xtb := in_xtb (i := 1440) (by decide +kernel) rfl
theorem v_58 : Cond.selects yX12_bookTold.cls yX12_bookTold yX12_bookTold ∈ xtb := in_priv (i := 58) (by decide +kernel) rfl
theorem w_1449 : Cond.code yX12_markOwn cX12_markOwn 3 (some .int) ∈ xtb := in_xtb (i := 1449) (by decide +kernel) rfl
theorem cb_X12_markOwn : xCb yX12_markOwn cX12_markOwn 3 (some .int) 1 := ⟨w_9, w_1449, by decide, by decide, by decide +kernel⟩
theorem w_1446 : Cond.methodLink RX12 242 yX12_markOwn ∈ xtb := in_xtb (i := 1446) (by decide +kernel) rfl
theorem w_1448 : Cond.instanceMethod yX12_markOwn ∈ xtb := in_xtb (i := 1448) (by decide +kernel) rfl
theorem v_59 : Cond.selects yX12_markOwn.cls yX12_markOwn yX12_markOwn ∈ xtb := in_priv (i := 59) (by decide +kernel) rfl
theorem w_1464 : Cond.code yX12_isHad cX12_isHad 2 (some .boolean) ∈ xtb := in_xtb (i := 1464) (by decide +kernel) rfl
theorem cb_X12_isHad : xCb yX12_isHad cX12_isHad 2 (some .boolean) 1 := ⟨w_9, w_1464, by decide, by decide, by decide +kernel⟩
theorem w_1461 : Cond.methodLink RX12 245 yX12_isHad ∈ xtb := in_xtb (i := 1461) (by decide +kernel) rfl
theorem w_1463 : Cond.instanceMethod yX12_isHad ∈ xtb := in_xtb (i := 1463) (by decide +kernel) rfl
theorem v_61 : Cond.selects yX12_isHad.cls yX12_isHad yX12_isHad ∈ xtb := in_priv (i := 61) (by decide +kernel) rfl
theorem w_1456 : Cond.code yX12_isReader cX12_isReader 1 (some .boolean) ∈ xtb := in_xtb (i := 1456) (by decide +kernel) rfl
theorem cb_X12_isReader : xCb yX12_isReader cX12_isReader 1 (some .boolean) 1 := ⟨w_9, w_1456, by decide, by decide, by decide +kernel⟩
theorem w_1455 : Cond.static yX12_isReader ∈ xtb := in_xtb (i := 1455) (by decide +kernel) rfl
theorem w_1454 : Cond.methodLink RX12 248 yX12_isReader ∈ xtb := in_xtb (i := 1454) (by decide +kernel) rfl
theorem w_1460 : Cond.code yX12_hasOf cX12_hasOf 4 (some .int) ∈ xtb := in_xtb (i := 1460) (by decide +kernel) rfl
theorem cb_X12_hasOf : xCb yX12_hasOf cX12_hasOf 4 (some .int) 1 := ⟨w_9, w_1460, by decide, by decide, by decide +kernel⟩
theorem w_1457 : Cond.methodLink RX12 251 yX12_hasOf ∈ xtb := in_xtb (i := 1457) (by decide +kernel) rfl
theorem w_1459 : Cond.instanceMethod yX12_hasOf ∈ xtb := in_xtb (i := 1459) (by decide +kernel) rfl
theorem v_60 : Cond.selects yX12_hasOf.cls yX12_hasOf yX12_hasOf ∈ xtb := in_priv (i := 60) (by decide +kernel) rfl
theorem w_1472 : Cond.code yX12_forceNow cX12_forceNow 2 (some .int) ∈ xtb := in_xtb (i := 1472) (by decide +kernel) rfl
theorem cb_X12_forceNow : xCb yX12_forceNow cX12_forceNow 2 (some .int) 1 := ⟨w_9, w_1472, by decide, by decide, by decide +kernel⟩
theorem w_1469 : Cond.methodLink RX12 254 yX12_forceNow ∈ xtb := in_xtb (i := 1469) (by decide +kernel) rfl
theorem w_1471 : Cond.instanceMethod yX12_forceNow ∈ xtb := in_xtb (i := 1471) (by decide +kernel) rfl
theorem v_62 : Cond.selects yX12_forceNow.cls yX12_forceNow yX12_forceNow ∈ xtb := in_priv (i := 62) (by decide +kernel) rfl
theorem w_1476 : Cond.code yX12_forceOf cX12_forceOf 5 (some .int) ∈ xtb := in_xtb (i := 1476) (by decide +kernel) rfl
theorem cb_X12_forceOf : xCb yX12_forceOf cX12_forceOf 5 (some .int) 3 := ⟨w_9, w_1476, by decide, by decide, by decide +kernel⟩
theorem w_1473 : Cond.methodLink RX12 280 yX12_forceOf ∈ xtb := in_xtb (i := 1473) (by decide +kernel) rfl
theorem w_1475 : Cond.instanceMethod yX12_forceOf ∈ xtb := in_xtb (i := 1475) (by decide +kernel) rfl
theorem v_63 : Cond.selects yX12_forceOf.cls yX12_forceOf yX12_forceOf ∈ xtb := in_priv (i := 63) (by decide +kernel) rfl
theorem w_1480 : Cond.code yX12_ruleFor cX12_ruleFor 6 (some .int) ∈ xtb := in_xtb (i := 1480) (by decide +kernel) rfl
theorem cb_X12_ruleFor : xCb yX12_ruleFor cX12_ruleFor 6 (some .int) 3 := ⟨w_9, w_1480, by decide, by decide, by decide +kernel⟩
theorem w_1477 : Cond.methodLink RX12 276 yX12_ruleFor ∈ xtb := in_xtb (i := 1477) (by decide +kernel) rfl
theorem w_1479 : Cond.instanceMethod yX12_ruleFor ∈ xtb := in_xtb (i := 1479) (by decide +kernel) rfl
theorem v_64 : Cond.selects yX12_ruleFor.cls yX12_ruleFor yX12_ruleFor ∈ xtb := in_priv (i := 64) (by decide +kernel) rfl
theorem w_1142 : Cond.fieldLink RX12 269 "ReadersRoomModel" "ruleMany" "I" ∈ xtb := in_xtb (i := 1142) (by decide +kernel) rfl
theorem lk_X12_269 {y : MethodName} (hy : y.cls = RX12) : xLk y 269 14 27 := ⟨xc14, by decide, "ReadersRoomModel", (by rw [hy]; exact w_1142), Or.inl rfl⟩
theorem w_1484 : Cond.code yX12_tellsOf cX12_tellsOf 5 (some .boolean) ∈ xtb := in_xtb (i := 1484) (by decide +kernel) rfl
theorem cb_X12_tellsOf : xCb yX12_tellsOf cX12_tellsOf 5 (some .boolean) 4 := ⟨w_9, w_1484, by decide, by decide, by decide +kernel⟩
theorem w_1481 : Cond.methodLink RX12 272 yX12_tellsOf ∈ xtb := in_xtb (i := 1481) (by decide +kernel) rfl
theorem w_1483 : Cond.instanceMethod yX12_tellsOf ∈ xtb := in_xtb (i := 1483) (by decide +kernel) rfl
theorem v_65 : Cond.selects yX12_tellsOf.cls yX12_tellsOf yX12_tellsOf ∈ xtb := in_priv (i := 65) (by decide +kernel) rfl
theorem w_1515 : Cond.code yX12_letterOf cX12_letterOf 1 (some .int) ∈ xtb := in_xtb (i := 1515) (by decide +kernel) rfl
theorem cb_X12_letterOf : xCb yX12_letterOf cX12_letterOf 1 (some .int) 1 := ⟨w_9, w_1515, by decide, by decide, by decide +kernel⟩
theorem w_1514 : Cond.static yX12_letterOf ∈ xtb := in_xtb (i := 1514) (by decide +kernel) rfl
theorem w_1513 : Cond.methodLink RX12 257 yX12_letterOf ∈ xtb := in_xtb (i := 1513) (by decide +kernel) rfl
theorem w_1519 : Cond.code yX12_readNumber cX12_readNumber 4 (some .boolean) ∈ xtb := in_xtb (i := 1519) (by decide +kernel) rfl
theorem cb_X12_readNumber : xCb yX12_readNumber cX12_readNumber 4 (some .boolean) 3 := ⟨w_9, w_1519, by decide, by decide, by decide +kernel⟩
theorem w_1516 : Cond.methodLink RX12 260 yX12_readNumber ∈ xtb := in_xtb (i := 1516) (by decide +kernel) rfl
theorem w_1518 : Cond.instanceMethod yX12_readNumber ∈ xtb := in_xtb (i := 1518) (by decide +kernel) rfl
theorem v_68 : Cond.selects yX12_readNumber.cls yX12_readNumber yX12_readNumber ∈ xtb := in_priv (i := 68) (by decide +kernel) rfl
theorem w_1508 : Cond.code yX12_faultOf cX12_faultOf 4 (some .int) ∈ xtb := in_xtb (i := 1508) (by decide +kernel) rfl
theorem cb_X12_faultOf : xCb yX12_faultOf cX12_faultOf 4 (some .int) 1 := ⟨w_9, w_1508, by decide, by decide, by decide +kernel⟩
theorem w_1505 : Cond.methodLink RX12 263 yX12_faultOf ∈ xtb := in_xtb (i := 1505) (by decide +kernel) rfl
theorem w_1507 : Cond.instanceMethod yX12_faultOf ∈ xtb := in_xtb (i := 1507) (by decide +kernel) rfl
theorem v_66 : Cond.selects yX12_faultOf.cls yX12_faultOf yX12_faultOf ∈ xtb := in_priv (i := 66) (by decide +kernel) rfl
theorem w_1526 : Cond.code yX12_isDay cX12_isDay 1 (some .boolean) ∈ xtb := in_xtb (i := 1526) (by decide +kernel) rfl
theorem cb_X12_isDay : xCb yX12_isDay cX12_isDay 1 (some .boolean) 1 := ⟨w_9, w_1526, by decide, by decide, by decide +kernel⟩
theorem w_1525 : Cond.static yX12_isDay ∈ xtb := in_xtb (i := 1525) (by decide +kernel) rfl
theorem w_1524 : Cond.methodLink RX12 266 yX12_isDay ∈ xtb := in_xtb (i := 1524) (by decide +kernel) rfl
theorem w_1533 : Cond.code yX12_isAsked cX12_isAsked 3 (some .boolean) ∈ xtb := in_xtb (i := 1533) (by decide +kernel) rfl
theorem cb_X12_isAsked : xCb yX12_isAsked cX12_isAsked 3 (some .boolean) 3 := ⟨w_9, w_1533, by decide, by decide, by decide +kernel⟩
theorem w_1532 : Cond.static yX12_isAsked ∈ xtb := in_xtb (i := 1532) (by decide +kernel) rfl
theorem w_1531 : Cond.methodLink RX12 283 yX12_isAsked ∈ xtb := in_xtb (i := 1531) (by decide +kernel) rfl
theorem w_1147 : Cond.fieldLink RX12 286 "ReadersRoomModel" "slipMany" "I" ∈ xtb := in_xtb (i := 1147) (by decide +kernel) rfl
theorem lk_X12_286 {y : MethodName} (hy : y.cls = RX12) : xLk y 286 14 32 := ⟨xc14, by decide, "ReadersRoomModel", (by rw [hy]; exact w_1147), Or.inl rfl⟩
theorem w_1549 : Cond.code yX12_loadOf cX12_loadOf 4 (some .int) ∈ xtb := in_xtb (i := 1549) (by decide +kernel) rfl
theorem cb_X12_loadOf : xCb yX12_loadOf cX12_loadOf 4 (some .int) 1 := ⟨w_9, w_1549, by decide, by decide, by decide +kernel⟩
theorem w_1546 : Cond.methodLink RX12 289 yX12_loadOf ∈ xtb := in_xtb (i := 1546) (by decide +kernel) rfl
theorem w_1548 : Cond.instanceMethod yX12_loadOf ∈ xtb := in_xtb (i := 1548) (by decide +kernel) rfl
theorem v_69 : Cond.selects yX12_loadOf.cls yX12_loadOf yX12_loadOf ∈ xtb := in_priv (i := 69) (by decide +kernel) rfl
theorem w_1553 : Cond.code yX12_eyesAt cX12_eyesAt 4 (some .int) ∈ xtb := in_xtb (i := 1553) (by decide +kernel) rfl
theorem cb_X12_eyesAt : xCb yX12_eyesAt cX12_eyesAt 4 (some .int) 1 := ⟨w_9, w_1553, by decide, by decide, by decide +kernel⟩
theorem w_1550 : Cond.methodLink RX12 292 yX12_eyesAt ∈ xtb := in_xtb (i := 1550) (by decide +kernel) rfl
theorem w_1552 : Cond.instanceMethod yX12_eyesAt ∈ xtb := in_xtb (i := 1552) (by decide +kernel) rfl
theorem v_70 : Cond.selects yX12_eyesAt.cls yX12_eyesAt yX12_eyesAt ∈ xtb := in_priv (i := 70) (by decide +kernel) rfl
theorem w_1179 : Cond.fieldLink RX12 392 "ReadersRoomModel" "eyeMany" "I" ∈ xtb := in_xtb (i := 1179) (by decide +kernel) rfl
theorem lk_X12_392 {y : MethodName} (hy : y.cls = RX12) : xLk y 392 14 64 := ⟨xc14, by decide, "ReadersRoomModel", (by rw [hy]; exact w_1179), Or.inl rfl⟩
theorem w_1561 : Cond.code yX12_isSlip cX12_isSlip 2 (some .boolean) ∈ xtb := in_xtb (i := 1561) (by decide +kernel) rfl
theorem cb_X12_isSlip : xCb yX12_isSlip cX12_isSlip 2 (some .boolean) 1 := ⟨w_9, w_1561, by decide, by decide, by decide +kernel⟩
theorem w_1558 : Cond.methodLink RX12 295 yX12_isSlip ∈ xtb := in_xtb (i := 1558) (by decide +kernel) rfl
theorem w_1560 : Cond.instanceMethod yX12_isSlip ∈ xtb := in_xtb (i := 1560) (by decide +kernel) rfl
theorem v_71 : Cond.selects yX12_isSlip.cls yX12_isSlip yX12_isSlip ∈ xtb := in_priv (i := 71) (by decide +kernel) rfl
theorem w_1565 : Cond.code yX12_slipTells cX12_slipTells 3 (some .int) ∈ xtb := in_xtb (i := 1565) (by decide +kernel) rfl
theorem cb_X12_slipTells : xCb yX12_slipTells cX12_slipTells 3 (some .int) 2 := ⟨w_9, w_1565, by decide, by decide, by decide +kernel⟩
theorem w_1562 : Cond.methodLink RX12 298 yX12_slipTells ∈ xtb := in_xtb (i := 1562) (by decide +kernel) rfl
theorem w_1564 : Cond.instanceMethod yX12_slipTells ∈ xtb := in_xtb (i := 1564) (by decide +kernel) rfl
theorem v_72 : Cond.selects yX12_slipTells.cls yX12_slipTells yX12_slipTells ∈ xtb := in_priv (i := 72) (by decide +kernel) rfl
theorem w_1572 : Cond.code yX12_isFetcher cX12_isFetcher 1 (some .boolean) ∈ xtb := in_xtb (i := 1572) (by decide +kernel) rfl
theorem cb_X12_isFetcher : xCb yX12_isFetcher cX12_isFetcher 1 (some .boolean) 1 := ⟨w_9, w_1572, by decide, by decide, by decide +kernel⟩
theorem w_1571 : Cond.static yX12_isFetcher ∈ xtb := in_xtb (i := 1571) (by decide +kernel) rfl
theorem w_1570 : Cond.methodLink RX12 301 yX12_isFetcher ∈ xtb := in_xtb (i := 1570) (by decide +kernel) rfl
theorem w_1584 : Cond.code yX12_takesOf cX12_takesOf 3 (some .int) ∈ xtb := in_xtb (i := 1584) (by decide +kernel) rfl
theorem cb_X12_takesOf : xCb yX12_takesOf cX12_takesOf 3 (some .int) 2 := ⟨w_9, w_1584, by decide, by decide, by decide +kernel⟩
theorem w_1581 : Cond.methodLink RX12 304 yX12_takesOf ∈ xtb := in_xtb (i := 1581) (by decide +kernel) rfl
theorem w_1583 : Cond.instanceMethod yX12_takesOf ∈ xtb := in_xtb (i := 1583) (by decide +kernel) rfl
theorem v_73 : Cond.selects yX12_takesOf.cls yX12_takesOf yX12_takesOf ∈ xtb := in_priv (i := 73) (by decide +kernel) rfl
theorem w_1156 : Cond.fieldLink RX12 307 "ReadersRoomModel" "lookMany" "I" ∈ xtb := in_xtb (i := 1156) (by decide +kernel) rfl
theorem lk_X12_307 {y : MethodName} (hy : y.cls = RX12) : xLk y 307 14 41 := ⟨xc14, by decide, "ReadersRoomModel", (by rw [hy]; exact w_1156), Or.inl rfl⟩
theorem w_1592 : Cond.code yX12_looks cX12_looks 3 (none) ∈ xtb := in_xtb (i := 1592) (by decide +kernel) rfl
theorem cb_X12_looks : xCb yX12_looks cX12_looks 3 (none) 2 := ⟨w_9, w_1592, by decide, by decide, by decide +kernel⟩
theorem w_1589 : Cond.methodLink RX12 310 yX12_looks ∈ xtb := in_xtb (i := 1589) (by decide +kernel) rfl
theorem w_1591 : Cond.instanceMethod yX12_looks ∈ xtb := in_xtb (i := 1591) (by decide +kernel) rfl
theorem v_74 : Cond.selects yX12_looks.cls yX12_looks yX12_looks ∈ xtb := in_priv (i := 74) (by decide +kernel) rfl
theorem w_1600 : Cond.code yX12_freeFrom cX12_freeFrom 2 (some .int) ∈ xtb := in_xtb (i := 1600) (by decide +kernel) rfl
theorem cb_X12_freeFrom : xCb yX12_freeFrom cX12_freeFrom 2 (some .int) 1 := ⟨w_9, w_1600, by decide, by decide, by decide +kernel⟩
theorem w_1597 : Cond.methodLink RX12 313 yX12_freeFrom ∈ xtb := in_xtb (i := 1597) (by decide +kernel) rfl
theorem w_1599 : Cond.instanceMethod yX12_freeFrom ∈ xtb := in_xtb (i := 1599) (by decide +kernel) rfl
theorem v_75 : Cond.selects yX12_freeFrom.cls yX12_freeFrom yX12_freeFrom ∈ xtb := in_priv (i := 75) (by decide +kernel) rfl
theorem w_1161 : Cond.fieldLink RX12 316 "ReadersRoomModel" "waitMany" "I" ∈ xtb := in_xtb (i := 1161) (by decide +kernel) rfl
theorem lk_X12_316 {y : MethodName} (hy : y.cls = RX12) : xLk y 316 14 46 := ⟨xc14, by decide, "ReadersRoomModel", (by rw [hy]; exact w_1161), Or.inl rfl⟩
theorem w_1613 : Cond.constantLong RX12 319 (-1) ∈ xtb := in_xtb (i := 1613) (by decide +kernel) rfl
theorem w_1617 : Cond.code yX12_layWay cX12_layWay 4 (none) ∈ xtb := in_xtb (i := 1617) (by decide +kernel) rfl
theorem cb_X12_layWay : xCb yX12_layWay cX12_layWay 4 (none) 1 := ⟨w_9, w_1617, by decide, by decide, by decide +kernel⟩
theorem w_1614 : Cond.methodLink RX12 321 yX12_layWay ∈ xtb := in_xtb (i := 1614) (by decide +kernel) rfl
theorem w_1616 : Cond.instanceMethod yX12_layWay ∈ xtb := in_xtb (i := 1616) (by decide +kernel) rfl
theorem v_78 : Cond.selects yX12_layWay.cls yX12_layWay yX12_layWay ∈ xtb := in_priv (i := 78) (by decide +kernel) rfl
theorem w_1621 : Cond.code yX12_sumOf cX12_sumOf 10 (some .long) ∈ xtb := in_xtb (i := 1621) (by decide +kernel) rfl
theorem cb_X12_sumOf : xCb yX12_sumOf cX12_sumOf 10 (some .long) 0 := ⟨w_9, w_1621, by decide, by decide, by decide +kernel⟩
theorem w_1618 : Cond.methodLink RX12 324 yX12_sumOf ∈ xtb := in_xtb (i := 1618) (by decide +kernel) rfl
theorem w_1620 : Cond.instanceMethod yX12_sumOf ∈ xtb := in_xtb (i := 1620) (by decide +kernel) rfl
theorem v_79 : Cond.selects yX12_sumOf.cls yX12_sumOf yX12_sumOf ∈ xtb := in_priv (i := 79) (by decide +kernel) rfl
theorem w_1608 : Cond.code yX12_layWaits cX12_layWaits 2 (none) ∈ xtb := in_xtb (i := 1608) (by decide +kernel) rfl
theorem cb_X12_layWaits : xCb yX12_layWaits cX12_layWaits 2 (none) 0 := ⟨w_9, w_1608, by decide, by decide, by decide +kernel⟩
theorem w_1605 : Cond.methodLink RX12 328 yX12_layWaits ∈ xtb := in_xtb (i := 1605) (by decide +kernel) rfl
theorem w_1607 : Cond.instanceMethod yX12_layWaits ∈ xtb := in_xtb (i := 1607) (by decide +kernel) rfl
theorem v_76 : Cond.selects yX12_layWaits.cls yX12_layWaits yX12_layWaits ∈ xtb := in_priv (i := 76) (by decide +kernel) rfl
theorem w_1612 : Cond.code yX12_layRound cX12_layRound 8 (some .long) ∈ xtb := in_xtb (i := 1612) (by decide +kernel) rfl
theorem cb_X12_layRound : xCb yX12_layRound cX12_layRound 8 (some .long) 0 := ⟨w_9, w_1612, by decide, by decide, by decide +kernel⟩
theorem w_1609 : Cond.methodLink RX12 331 yX12_layRound ∈ xtb := in_xtb (i := 1609) (by decide +kernel) rfl
theorem w_1611 : Cond.instanceMethod yX12_layRound ∈ xtb := in_xtb (i := 1611) (by decide +kernel) rfl
theorem v_77 : Cond.selects yX12_layRound.cls yX12_layRound yX12_layRound ∈ xtb := in_priv (i := 77) (by decide +kernel) rfl
theorem w_1644 : Cond.code yX12_bits cX12_bits 3 (some .int) ∈ xtb := in_xtb (i := 1644) (by decide +kernel) rfl
theorem cb_X12_bits : xCb yX12_bits cX12_bits 3 (some .int) 1 := ⟨w_9, w_1644, by decide, by decide, by decide +kernel⟩
theorem w_1643 : Cond.static yX12_bits ∈ xtb := in_xtb (i := 1643) (by decide +kernel) rfl
theorem w_1642 : Cond.methodLink RX12 334 yX12_bits ∈ xtb := in_xtb (i := 1642) (by decide +kernel) rfl
theorem w_1164 : Cond.fieldLink RX12 337 "ReadersRoomModel" "lineMany" "I" ∈ xtb := in_xtb (i := 1164) (by decide +kernel) rfl
theorem lk_X12_337 {y : MethodName} (hy : y.cls = RX12) : xLk y 337 14 49 := ⟨xc14, by decide, "ReadersRoomModel", (by rw [hy]; exact w_1164), Or.inl rfl⟩
theorem w_1656 : Cond.code yX12_isMark cX12_isMark 4 (some .boolean) ∈ xtb := in_xtb (i := 1656) (by decide +kernel) rfl
theorem cb_X12_isMark : xCb yX12_isMark cX12_isMark 4 (some .boolean) 3 := ⟨w_9, w_1656, by decide, by decide, by decide +kernel⟩
theorem w_1653 : Cond.methodLink RX12 340 yX12_isMark ∈ xtb := in_xtb (i := 1653) (by decide +kernel) rfl
theorem w_1655 : Cond.instanceMethod yX12_isMark ∈ xtb := in_xtb (i := 1655) (by decide +kernel) rfl
theorem v_80 : Cond.selects yX12_isMark.cls yX12_isMark yX12_isMark ∈ xtb := in_priv (i := 80) (by decide +kernel) rfl
theorem w_1660 : Cond.code yX12_layToday cX12_layToday 8 (none) ∈ xtb := in_xtb (i := 1660) (by decide +kernel) rfl
theorem cb_X12_layToday : xCb yX12_layToday cX12_layToday 8 (none) 3 := ⟨w_9, w_1660, by decide, by decide, by decide +kernel⟩
theorem w_1657 : Cond.methodLink RX12 343 yX12_layToday ∈ xtb := in_xtb (i := 1657) (by decide +kernel) rfl
theorem w_1659 : Cond.instanceMethod yX12_layToday ∈ xtb := in_xtb (i := 1659) (by decide +kernel) rfl
theorem v_81 : Cond.selects yX12_layToday.cls yX12_layToday yX12_layToday ∈ xtb := in_priv (i := 81) (by decide +kernel) rfl
theorem w_1174 : Cond.fieldLink RX12 346 "ReadersRoomModel" "seenMany" "I" ∈ xtb := in_xtb (i := 1174) (by decide +kernel) rfl
theorem lk_X12_346 {y : MethodName} (hy : y.cls = RX12) : xLk y 346 14 59 := ⟨xc14, by decide, "ReadersRoomModel", (by rw [hy]; exact w_1174), Or.inl rfl⟩
theorem w_1175 : Cond.fieldLink RX12 349 "ReadersRoomModel" "wrongMany" "I" ∈ xtb := in_xtb (i := 1175) (by decide +kernel) rfl
theorem lk_X12_349 {y : MethodName} (hy : y.cls = RX12) : xLk y 349 14 60 := ⟨xc14, by decide, "ReadersRoomModel", (by rw [hy]; exact w_1175), Or.inl rfl⟩
theorem w_1680 : Cond.code yX12_nextMark cX12_nextMark 7 (some .int) ∈ xtb := in_xtb (i := 1680) (by decide +kernel) rfl
theorem cb_X12_nextMark : xCb yX12_nextMark cX12_nextMark 7 (some .int) 2 := ⟨w_9, w_1680, by decide, by decide, by decide +kernel⟩
theorem w_1677 : Cond.methodLink RX12 352 yX12_nextMark ∈ xtb := in_xtb (i := 1677) (by decide +kernel) rfl
theorem w_1679 : Cond.instanceMethod yX12_nextMark ∈ xtb := in_xtb (i := 1679) (by decide +kernel) rfl
theorem v_83 : Cond.selects yX12_nextMark.cls yX12_nextMark yX12_nextMark ∈ xtb := in_priv (i := 83) (by decide +kernel) rfl
theorem w_1684 : Cond.code yX12_lastReader cX12_lastReader 4 (some .int) ∈ xtb := in_xtb (i := 1684) (by decide +kernel) rfl
theorem cb_X12_lastReader : xCb yX12_lastReader cX12_lastReader 4 (some .int) 1 := ⟨w_9, w_1684, by decide, by decide, by decide +kernel⟩
theorem w_1681 : Cond.methodLink RX12 356 yX12_lastReader ∈ xtb := in_xtb (i := 1681) (by decide +kernel) rfl
theorem w_1683 : Cond.instanceMethod yX12_lastReader ∈ xtb := in_xtb (i := 1683) (by decide +kernel) rfl
theorem v_84 : Cond.selects yX12_lastReader.cls yX12_lastReader yX12_lastReader ∈ xtb := in_priv (i := 84) (by decide +kernel) rfl
theorem w_1687 : Cond.code yX12_isChanged cX12_isChanged 6 (some .boolean) ∈ xtb := in_xtb (i := 1687) (by decide +kernel) rfl
theorem cb_X12_isChanged : xCb yX12_isChanged cX12_isChanged 6 (some .boolean) 2 := ⟨w_9, w_1687, by decide, by decide, by decide +kernel⟩
theorem w_1686 : Cond.static yX12_isChanged ∈ xtb := in_xtb (i := 1686) (by decide +kernel) rfl
theorem w_1685 : Cond.methodLink RX12 359 yX12_isChanged ∈ xtb := in_xtb (i := 1685) (by decide +kernel) rfl
theorem w_1691 : Cond.code yX12_everHad cX12_everHad 5 (some .boolean) ∈ xtb := in_xtb (i := 1691) (by decide +kernel) rfl
theorem cb_X12_everHad : xCb yX12_everHad cX12_everHad 5 (some .boolean) 2 := ⟨w_9, w_1691, by decide, by decide, by decide +kernel⟩
theorem w_1688 : Cond.methodLink RX12 363 yX12_everHad ∈ xtb := in_xtb (i := 1688) (by decide +kernel) rfl
theorem w_1690 : Cond.instanceMethod yX12_everHad ∈ xtb := in_xtb (i := 1690) (by decide +kernel) rfl
theorem v_85 : Cond.selects yX12_everHad.cls yX12_everHad yX12_everHad ∈ xtb := in_priv (i := 85) (by decide +kernel) rfl
theorem w_1676 : Cond.code yX12_likelyOf cX12_likelyOf 8 (some .int) ∈ xtb := in_xtb (i := 1676) (by decide +kernel) rfl
theorem cb_X12_likelyOf : xCb yX12_likelyOf cX12_likelyOf 8 (some .int) 2 := ⟨w_9, w_1676, by decide, by decide, by decide +kernel⟩
theorem w_1673 : Cond.methodLink RX12 366 yX12_likelyOf ∈ xtb := in_xtb (i := 1673) (by decide +kernel) rfl
theorem w_1675 : Cond.instanceMethod yX12_likelyOf ∈ xtb := in_xtb (i := 1675) (by decide +kernel) rfl
theorem v_82 : Cond.selects yX12_likelyOf.cls yX12_likelyOf yX12_likelyOf ∈ xtb := in_priv (i := 82) (by decide +kernel) rfl
theorem w_1707 : Cond.code yX12_lookAt cX12_lookAt 5 (some .int) ∈ xtb := in_xtb (i := 1707) (by decide +kernel) rfl
theorem cb_X12_lookAt : xCb yX12_lookAt cX12_lookAt 5 (some .int) 2 := ⟨w_9, w_1707, by decide, by decide, by decide +kernel⟩
theorem w_1704 : Cond.methodLink RX12 369 yX12_lookAt ∈ xtb := in_xtb (i := 1704) (by decide +kernel) rfl
theorem w_1706 : Cond.instanceMethod yX12_lookAt ∈ xtb := in_xtb (i := 1706) (by decide +kernel) rfl
theorem v_86 : Cond.selects yX12_lookAt.cls yX12_lookAt yX12_lookAt ∈ xtb := in_priv (i := 86) (by decide +kernel) rfl
theorem w_1716 : Cond.constantLong RX12 372 1000000000 ∈ xtb := in_xtb (i := 1716) (by decide +kernel) rfl
theorem w_1720 : Cond.code yX12_hasRoom cX12_hasRoom 8 (some .boolean) ∈ xtb := in_xtb (i := 1720) (by decide +kernel) rfl
theorem cb_X12_hasRoom : xCb yX12_hasRoom cX12_hasRoom 8 (some .boolean) 5 := ⟨w_9, w_1720, by decide, by decide, by decide +kernel⟩
theorem w_1717 : Cond.methodLink RX12 374 yX12_hasRoom ∈ xtb := in_xtb (i := 1717) (by decide +kernel) rfl
theorem w_1719 : Cond.instanceMethod yX12_hasRoom ∈ xtb := in_xtb (i := 1719) (by decide +kernel) rfl
theorem v_88 : Cond.selects yX12_hasRoom.cls yX12_hasRoom yX12_hasRoom ∈ xtb := in_priv (i := 88) (by decide +kernel) rfl
theorem w_1724 : Cond.code yX12_blockCost cX12_blockCost 9 (some .long) ∈ xtb := in_xtb (i := 1724) (by decide +kernel) rfl
theorem cb_X12_blockCost : xCb yX12_blockCost cX12_blockCost 9 (some .long) 5 := ⟨w_9, w_1724, by decide, by decide, by decide +kernel⟩
theorem w_1721 : Cond.methodLink RX12 378 yX12_blockCost ∈ xtb := in_xtb (i := 1721) (by decide +kernel) rfl
theorem w_1723 : Cond.instanceMethod yX12_blockCost ∈ xtb := in_xtb (i := 1723) (by decide +kernel) rfl
theorem v_89 : Cond.selects yX12_blockCost.cls yX12_blockCost yX12_blockCost ∈ xtb := in_priv (i := 89) (by decide +kernel) rfl
theorem w_1715 : Cond.code yX12_layCosts cX12_layCosts 12 (none) ∈ xtb := in_xtb (i := 1715) (by decide +kernel) rfl
theorem cb_X12_layCosts : xCb yX12_layCosts cX12_layCosts 12 (none) 4 := ⟨w_9, w_1715, by decide, by decide, by decide +kernel⟩
theorem w_1712 : Cond.methodLink RX12 382 yX12_layCosts ∈ xtb := in_xtb (i := 1712) (by decide +kernel) rfl
theorem w_1714 : Cond.instanceMethod yX12_layCosts ∈ xtb := in_xtb (i := 1714) (by decide +kernel) rfl
theorem v_87 : Cond.selects yX12_layCosts.cls yX12_layCosts yX12_layCosts ∈ xtb := in_priv (i := 87) (by decide +kernel) rfl
theorem w_1177 : Cond.fieldLink RX12 386 "ReadersRoomModel" "movedMany" "I" ∈ xtb := in_xtb (i := 1177) (by decide +kernel) rfl
theorem lk_X12_386 {y : MethodName} (hy : y.cls = RX12) : xLk y 386 14 62 := ⟨xc14, by decide, "ReadersRoomModel", (by rw [hy]; exact w_1177), Or.inl rfl⟩
theorem w_1735 : Cond.code yX12_isMinute cX12_isMinute 1 (some .boolean) ∈ xtb := in_xtb (i := 1735) (by decide +kernel) rfl
theorem cb_X12_isMinute : xCb yX12_isMinute cX12_isMinute 1 (some .boolean) 1 := ⟨w_9, w_1735, by decide, by decide, by decide +kernel⟩
theorem w_1734 : Cond.static yX12_isMinute ∈ xtb := in_xtb (i := 1734) (by decide +kernel) rfl
theorem w_1733 : Cond.methodLink RX12 389 yX12_isMinute ∈ xtb := in_xtb (i := 1733) (by decide +kernel) rfl
theorem w_1182 : Cond.fieldLink RX12 395 "ReadersRoomModel" "goneFrom" "I" ∈ xtb := in_xtb (i := 1182) (by decide +kernel) rfl
theorem lk_X12_395 {y : MethodName} (hy : y.cls = RX12) : xLk y 395 14 67 := ⟨xc14, by decide, "ReadersRoomModel", (by rw [hy]; exact w_1182), Or.inl rfl⟩
theorem w_1183 : Cond.fieldLink RX12 398 "ReadersRoomModel" "goneTill" "I" ∈ xtb := in_xtb (i := 1183) (by decide +kernel) rfl
theorem lk_X12_398 {y : MethodName} (hy : y.cls = RX12) : xLk y 398 14 68 := ⟨xc14, by decide, "ReadersRoomModel", (by rw [hy]; exact w_1183), Or.inl rfl⟩
theorem w_1747 : Cond.code yX12_layGone cX12_layGone 5 (some .boolean) ∈ xtb := in_xtb (i := 1747) (by decide +kernel) rfl
theorem cb_X12_layGone : xCb yX12_layGone cX12_layGone 5 (some .boolean) 1 := ⟨w_9, w_1747, by decide, by decide, by decide +kernel⟩
theorem w_1744 : Cond.methodLink RX12 401 yX12_layGone ∈ xtb := in_xtb (i := 1744) (by decide +kernel) rfl
theorem w_1746 : Cond.instanceMethod yX12_layGone ∈ xtb := in_xtb (i := 1746) (by decide +kernel) rfl
theorem v_90 : Cond.selects yX12_layGone.cls yX12_layGone yX12_layGone ∈ xtb := in_priv (i := 90) (by decide +kernel) rfl
theorem w_1759 : Cond.code yX12_counted cX12_counted 4 (some .int) ∈ xtb := in_xtb (i := 1759) (by decide +kernel) rfl
theorem cb_X12_counted : xCb yX12_counted cX12_counted 4 (some .int) 1 := ⟨w_9, w_1759, by decide, by decide, by decide +kernel⟩
theorem w_1756 : Cond.methodLink RX12 404 yX12_counted ∈ xtb := in_xtb (i := 1756) (by decide +kernel) rfl
theorem w_1758 : Cond.instanceMethod yX12_counted ∈ xtb := in_xtb (i := 1758) (by decide +kernel) rfl
theorem v_91 : Cond.selects yX12_counted.cls yX12_counted yX12_counted ∈ xtb := in_priv (i := 91) (by decide +kernel) rfl
theorem w_1769 : Cond.constantLong RX12 407 31 ∈ xtb := in_xtb (i := 1769) (by decide +kernel) rfl
theorem w_1184 : Cond.fieldLink RX12 409 "ReadersRoomModel" "h" "J" ∈ xtb := in_xtb (i := 1184) (by decide +kernel) rfl
theorem lk_X12_409 {y : MethodName} (hy : y.cls = RX12) : xLk y 409 14 69 := ⟨xc14, by decide, "ReadersRoomModel", (by rw [hy]; exact w_1184), Or.inl rfl⟩
theorem w_1768 : Cond.code yX12_mix cX12_mix 3 (none) ∈ xtb := in_xtb (i := 1768) (by decide +kernel) rfl
theorem cb_X12_mix : xCb yX12_mix cX12_mix 3 (none) 1 := ⟨w_9, w_1768, by decide, by decide, by decide +kernel⟩
theorem w_1765 : Cond.methodLink RX12 412 yX12_mix ∈ xtb := in_xtb (i := 1765) (by decide +kernel) rfl
theorem w_1767 : Cond.instanceMethod yX12_mix ∈ xtb := in_xtb (i := 1767) (by decide +kernel) rfl
theorem v_92 : Cond.selects yX12_mix.cls yX12_mix yX12_mix ∈ xtb := in_priv (i := 92) (by decide +kernel) rfl
theorem w_1764 : Cond.constantLong RX12 416 17 ∈ xtb := in_xtb (i := 1764) (by decide +kernel) rfl
theorem w_1773 : Cond.code yX12_mixDesk cX12_mixDesk 3 (none) ∈ xtb := in_xtb (i := 1773) (by decide +kernel) rfl
theorem cb_X12_mixDesk : xCb yX12_mixDesk cX12_mixDesk 3 (none) 0 := ⟨w_9, w_1773, by decide, by decide, by decide +kernel⟩
theorem w_1770 : Cond.methodLink RX12 418 yX12_mixDesk ∈ xtb := in_xtb (i := 1770) (by decide +kernel) rfl
theorem w_1772 : Cond.instanceMethod yX12_mixDesk ∈ xtb := in_xtb (i := 1772) (by decide +kernel) rfl
theorem v_93 : Cond.selects yX12_mixDesk.cls yX12_mixDesk yX12_mixDesk ∈ xtb := in_priv (i := 93) (by decide +kernel) rfl
theorem w_1777 : Cond.code yX12_mixLists cX12_mixLists 2 (none) ∈ xtb := in_xtb (i := 1777) (by decide +kernel) rfl
theorem cb_X12_mixLists : xCb yX12_mixLists cX12_mixLists 2 (none) 0 := ⟨w_9, w_1777, by decide, by decide, by decide +kernel⟩
theorem w_1774 : Cond.methodLink RX12 421 yX12_mixLists ∈ xtb := in_xtb (i := 1774) (by decide +kernel) rfl
theorem w_1776 : Cond.instanceMethod yX12_mixLists ∈ xtb := in_xtb (i := 1776) (by decide +kernel) rfl
theorem v_94 : Cond.selects yX12_mixLists.cls yX12_mixLists yX12_mixLists ∈ xtb := in_priv (i := 94) (by decide +kernel) rfl
theorem w_29 : Cond.methodLink RX11 1 Lib.objectInit ∈ xtb := in_xtb (i := 29) (by decide +kernel) rfl
theorem w_32 : Cond.classLink RX11 9 RX8 ∈ xtb := in_xtb (i := 32) (by decide +kernel) rfl
theorem w_163 : Cond.fieldLink RX11 11 "ReadersRoom" "rows" "[LReadersRoom$Row;" ∈ xtb := in_xtb (i := 163) (by decide +kernel) rfl
theorem lk_X11_11 {y : MethodName} (hy : y.cls = RX11) : xLk y 11 13 0 := ⟨xc13, by decide, "ReadersRoom", (by rw [hy]; exact w_163), Or.inl rfl⟩
theorem w_164 : Cond.fieldLink RX11 15 "ReadersRoom" "texts" "[LReadersRoom$Row;" ∈ xtb := in_xtb (i := 164) (by decide +kernel) rfl
theorem lk_X11_15 {y : MethodName} (hy : y.cls = RX11) : xLk y 15 13 1 := ⟨xc13, by decide, "ReadersRoom", (by rw [hy]; exact w_164), Or.inl rfl⟩
theorem w_4 : Cond.initialized yJx4a65c_init_da8c8.cls ∈ xtb := in_xtb (i := 4) (by decide +kernel) rfl
theorem w_38 : Cond.code yJx4a65c_init_da8c8 cJx4a65c_init_da8c8 1 (none) ∈ xtb := in_xtb (i := 38) (by decide +kernel) rfl
theorem cb_Jx4a65c_init_da8c8 : xCb yJx4a65c_init_da8c8 cJx4a65c_init_da8c8 1 (none) 0 := ⟨w_4, w_38, by decide, by decide, by decide +kernel⟩
theorem w_36 : Cond.methodLink RX11 20 yJx4a65c_init_da8c8 ∈ xtb := in_xtb (i := 36) (by decide +kernel) rfl
theorem w_34 : Cond.classLink RX11 18 RJx4a65c ∈ xtb := in_xtb (i := 34) (by decide +kernel) rfl
theorem w_37 : Cond.instanceMethod yJx4a65c_init_da8c8 ∈ xtb := in_xtb (i := 37) (by decide +kernel) rfl
theorem w_165 : Cond.fieldLink RX11 21 "ReadersRoom" "books" "Ljava/util/ArrayList;" ∈ xtb := in_xtb (i := 165) (by decide +kernel) rfl
theorem lk_X11_21 {y : MethodName} (hy : y.cls = RX11) : xLk y 21 13 2 := ⟨xc13, by decide, "ReadersRoom", (by rw [hy]; exact w_165), Or.inl rfl⟩
theorem w_166 : Cond.fieldLink RX11 25 "ReadersRoom" "slips" "Ljava/util/ArrayList;" ∈ xtb := in_xtb (i := 166) (by decide +kernel) rfl
theorem lk_X11_25 {y : MethodName} (hy : y.cls = RX11) : xLk y 25 13 3 := ⟨xc13, by decide, "ReadersRoom", (by rw [hy]; exact w_166), Or.inl rfl⟩
theorem w_167 : Cond.fieldLink RX11 28 "ReadersRoom" "rules" "Ljava/util/ArrayList;" ∈ xtb := in_xtb (i := 167) (by decide +kernel) rfl
theorem lk_X11_28 {y : MethodName} (hy : y.cls = RX11) : xLk y 28 13 4 := ⟨xc13, by decide, "ReadersRoom", (by rw [hy]; exact w_167), Or.inl rfl⟩
theorem w_168 : Cond.fieldLink RX11 31 "ReadersRoom" "looks" "Ljava/util/ArrayList;" ∈ xtb := in_xtb (i := 168) (by decide +kernel) rfl
theorem lk_X11_31 {y : MethodName} (hy : y.cls = RX11) : xLk y 31 13 5 := ⟨xc13, by decide, "ReadersRoom", (by rw [hy]; exact w_168), Or.inl rfl⟩
theorem w_169 : Cond.fieldLink RX11 34 "ReadersRoom" "hads" "Ljava/util/ArrayList;" ∈ xtb := in_xtb (i := 169) (by decide +kernel) rfl
theorem lk_X11_34 {y : MethodName} (hy : y.cls = RX11) : xLk y 34 13 6 := ⟨xc13, by decide, "ReadersRoom", (by rw [hy]; exact w_169), Or.inl rfl⟩
theorem w_170 : Cond.fieldLink RX11 37 "ReadersRoom" "watches" "Ljava/util/ArrayList;" ∈ xtb := in_xtb (i := 170) (by decide +kernel) rfl
theorem lk_X11_37 {y : MethodName} (hy : y.cls = RX11) : xLk y 37 13 7 := ⟨xc13, by decide, "ReadersRoom", (by rw [hy]; exact w_170), Or.inl rfl⟩
theorem w_5 : Cond.initialized yX1_init.cls ∈ xtb := in_xtb (i := 5) (by decide +kernel) rfl
theorem w_64 : Cond.code yX1_init cX1_init 1 (none) ∈ xtb := in_xtb (i := 64) (by decide +kernel) rfl
theorem cb_X1_init : xCb yX1_init cX1_init 1 (none) 0 := ⟨w_5, w_64, by decide, by decide, by decide +kernel⟩
theorem w_62 : Cond.methodLinkNest RX11 42 yX1_init "ReadersRoom" ∈ xrs := in_xrs (i := 62) (by decide +kernel) rfl
theorem w_60 : Cond.classLink RX11 40 RX1 ∈ xtb := in_xtb (i := 60) (by decide +kernel) rfl
theorem w_63 : Cond.instanceMethod yX1_init ∈ xtb := in_xtb (i := 63) (by decide +kernel) rfl
theorem w_171 : Cond.fieldLink RX11 43 "ReadersRoom" "catalogue" "LReadersRoom$Catalogue;" ∈ xtb := in_xtb (i := 171) (by decide +kernel) rfl
theorem lk_X11_43 {y : MethodName} (hy : y.cls = RX11) : xLk y 43 13 8 := ⟨xc13, by decide, "ReadersRoom", (by rw [hy]; exact w_171), Or.inl rfl⟩
theorem w_6 : Cond.initialized yX7_init.cls ∈ xtb := in_xtb (i := 6) (by decide +kernel) rfl
theorem w_89 : Cond.code yX7_init cX7_init 1 (none) ∈ xtb := in_xtb (i := 89) (by decide +kernel) rfl
theorem cb_X7_init : xCb yX7_init cX7_init 1 (none) 0 := ⟨w_6, w_89, by decide, by decide, by decide +kernel⟩
theorem w_87 : Cond.methodLinkNest RX11 49 yX7_init "ReadersRoom" ∈ xrs := in_xrs (i := 87) (by decide +kernel) rfl
theorem w_85 : Cond.classLink RX11 47 RX7 ∈ xtb := in_xtb (i := 85) (by decide +kernel) rfl
theorem w_88 : Cond.instanceMethod yX7_init ∈ xtb := in_xtb (i := 88) (by decide +kernel) rfl
theorem w_172 : Cond.fieldLink RX11 50 "ReadersRoom" "rounds" "LReadersRoom$Rounds;" ∈ xtb := in_xtb (i := 172) (by decide +kernel) rfl
theorem lk_X11_50 {y : MethodName} (hy : y.cls = RX11) : xLk y 50 13 9 := ⟨xc13, by decide, "ReadersRoom", (by rw [hy]; exact w_172), Or.inl rfl⟩
theorem w_7 : Cond.initialized yX6_init.cls ∈ xtb := in_xtb (i := 7) (by decide +kernel) rfl
theorem w_128 : Cond.code yX6_init cX6_init 1 (none) ∈ xtb := in_xtb (i := 128) (by decide +kernel) rfl
theorem cb_X6_init : xCb yX6_init cX6_init 1 (none) 0 := ⟨w_7, w_128, by decide, by decide, by decide +kernel⟩
theorem w_126 : Cond.methodLinkNest RX11 56 yX6_init "ReadersRoom" ∈ xrs := in_xrs (i := 126) (by decide +kernel) rfl
theorem w_124 : Cond.classLink RX11 54 RX6 ∈ xtb := in_xtb (i := 124) (by decide +kernel) rfl
theorem w_127 : Cond.instanceMethod yX6_init ∈ xtb := in_xtb (i := 127) (by decide +kernel) rfl
theorem w_173 : Cond.fieldLink RX11 57 "ReadersRoom" "mover" "LReadersRoom$Mover;" ∈ xtb := in_xtb (i := 173) (by decide +kernel) rfl
theorem lk_X11_57 {y : MethodName} (hy : y.cls = RX11) : xLk y 57 13 10 := ⟨xc13, by decide, "ReadersRoom", (by rw [hy]; exact w_173), Or.inl rfl⟩
theorem w_174 : Cond.fieldLink RX11 61 "ReadersRoom" "paces" "[I" ∈ xtb := in_xtb (i := 174) (by decide +kernel) rfl
theorem lk_X11_61 {y : MethodName} (hy : y.cls = RX11) : xLk y 61 13 11 := ⟨xc13, by decide, "ReadersRoom", (by rw [hy]; exact w_174), Or.inl rfl⟩
theorem w_175 : Cond.fieldLink RX11 65 "ReadersRoom" "freeFrom" "[I" ∈ xtb := in_xtb (i := 175) (by decide +kernel) rfl
theorem lk_X11_65 {y : MethodName} (hy : y.cls = RX11) : xLk y 65 13 12 := ⟨xc13, by decide, "ReadersRoom", (by rw [hy]; exact w_175), Or.inl rfl⟩
theorem w_176 : Cond.fieldLink RX11 68 "ReadersRoom" "timesFound" "[I" ∈ xtb := in_xtb (i := 176) (by decide +kernel) rfl
theorem lk_X11_68 {y : MethodName} (hy : y.cls = RX11) : xLk y 68 13 13 := ⟨xc13, by decide, "ReadersRoom", (by rw [hy]; exact w_176), Or.inl rfl⟩
theorem w_177 : Cond.fieldLink RX11 71 "ReadersRoom" "now" "I" ∈ xtb := in_xtb (i := 177) (by decide +kernel) rfl
theorem lk_X11_71 {y : MethodName} (hy : y.cls = RX11) : xLk y 71 13 14 := ⟨xc13, by decide, "ReadersRoom", (by rw [hy]; exact w_177), Or.inl rfl⟩
theorem w_178 : Cond.fieldLink RX11 75 "ReadersRoom" "lastFinding" "I" ∈ xtb := in_xtb (i := 178) (by decide +kernel) rfl
theorem lk_X11_75 {y : MethodName} (hy : y.cls = RX11) : xLk y 75 13 15 := ⟨xc13, by decide, "ReadersRoom", (by rw [hy]; exact w_178), Or.inl rfl⟩
theorem w_179 : Cond.fieldLink RX11 78 "ReadersRoom" "lastAsked" "I" ∈ xtb := in_xtb (i := 179) (by decide +kernel) rfl
theorem lk_X11_78 {y : MethodName} (hy : y.cls = RX11) : xLk y 78 13 16 := ⟨xc13, by decide, "ReadersRoom", (by rw [hy]; exact w_179), Or.inl rfl⟩
theorem w_180 : Cond.fieldLink RX11 81 "ReadersRoom" "lastUpper" "J" ∈ xtb := in_xtb (i := 180) (by decide +kernel) rfl
theorem lk_X11_81 {y : MethodName} (hy : y.cls = RX11) : xLk y 81 13 17 := ⟨xc13, by decide, "ReadersRoom", (by rw [hy]; exact w_180), Or.inl rfl⟩
theorem w_181 : Cond.fieldLink RX11 85 "ReadersRoom" "lastLower" "J" ∈ xtb := in_xtb (i := 181) (by decide +kernel) rfl
theorem lk_X11_85 {y : MethodName} (hy : y.cls = RX11) : xLk y 85 13 18 := ⟨xc13, by decide, "ReadersRoom", (by rw [hy]; exact w_181), Or.inl rfl⟩
theorem w_182 : Cond.fieldLink RX11 88 "ReadersRoom" "seenAlong" "I" ∈ xtb := in_xtb (i := 182) (by decide +kernel) rfl
theorem lk_X11_88 {y : MethodName} (hy : y.cls = RX11) : xLk y 88 13 19 := ⟨xc13, by decide, "ReadersRoom", (by rw [hy]; exact w_182), Or.inl rfl⟩
theorem w_183 : Cond.fieldLink RX11 91 "ReadersRoom" "stoodWrong" "I" ∈ xtb := in_xtb (i := 183) (by decide +kernel) rfl
theorem lk_X11_91 {y : MethodName} (hy : y.cls = RX11) : xLk y 91 13 20 := ⟨xc13, by decide, "ReadersRoom", (by rw [hy]; exact w_183), Or.inl rfl⟩
theorem w_8 : Cond.initialized yX8_init.cls ∈ xtb := in_xtb (i := 8) (by decide +kernel) rfl
theorem w_150 : Cond.code yX8_init cX8_init 1 (none) ∈ xtb := in_xtb (i := 150) (by decide +kernel) rfl
theorem cb_X8_init : xCb yX8_init cX8_init 1 (none) 0 := ⟨w_8, w_150, by decide, by decide, by decide +kernel⟩
theorem w_148 : Cond.methodLinkNest RX11 94 yX8_init "ReadersRoom" ∈ xrs := in_xrs (i := 148) (by decide +kernel) rfl
theorem w_149 : Cond.instanceMethod yX8_init ∈ xtb := in_xtb (i := 149) (by decide +kernel) rfl
theorem w_3 : Cond.initialized yJxc12de_init_da8c8.cls ∈ xtb := in_xtb (i := 3) (by decide +kernel) rfl
theorem w_41 : Cond.code yJxc12de_init_da8c8 cJxc12de_init_da8c8 1 (none) ∈ xtb := in_xtb (i := 41) (by decide +kernel) rfl
theorem cb_Jxc12de_init_da8c8 : xCb yJxc12de_init_da8c8 cJxc12de_init_da8c8 1 (none) 0 := ⟨w_3, w_41, by decide, by decide, by decide +kernel⟩
theorem w_39 : Cond.methodLink RJx4a65c 1 yJxc12de_init_da8c8 ∈ xtb := in_xtb (i := 39) (by decide +kernel) rfl
theorem w_40 : Cond.instanceMethod yJxc12de_init_da8c8 ∈ xtb := in_xtb (i := 40) (by decide +kernel) rfl
theorem w_46 : Cond.fieldLink RJx4a65c 39 "java/util/ArrayList" "DEFAULTCAPACITY_EMPTY_ELEMENTDATA" "[Ljava/lang/Object;" ∈ xtb := in_xtb (i := 46) (by decide +kernel) rfl
theorem w_48 : Cond.fieldLink RJx4a65c 9 "java/util/ArrayList" "elementData" "[Ljava/lang/Object;" ∈ xtb := in_xtb (i := 48) (by decide +kernel) rfl
theorem lk_Jx4a65c_9 {y : MethodName} (hy : y.cls = RJx4a65c) : xLk y 9 1 1 := ⟨xc1, by decide, "java/util/ArrayList", (by rw [hy]; exact w_48), Or.inl rfl⟩
theorem w_2 : Cond.initialized yJxa1e45_init_da8c8.cls ∈ xtb := in_xtb (i := 2) (by decide +kernel) rfl
theorem w_44 : Cond.code yJxa1e45_init_da8c8 cJxa1e45_init_da8c8 1 (none) ∈ xtb := in_xtb (i := 44) (by decide +kernel) rfl
theorem cb_Jxa1e45_init_da8c8 : xCb yJxa1e45_init_da8c8 cJxa1e45_init_da8c8 1 (none) 0 := ⟨w_2, w_44, by decide, by decide, by decide +kernel⟩
theorem w_42 : Cond.methodLink RJxc12de 1 yJxa1e45_init_da8c8 ∈ xtb := in_xtb (i := 42) (by decide +kernel) rfl
theorem w_43 : Cond.instanceMethod yJxa1e45_init_da8c8 ∈ xtb := in_xtb (i := 43) (by decide +kernel) rfl
theorem w_50 : Cond.fieldLink RJxc12de 7 "java/util/AbstractList" "modCount" "I" ∈ xtb := in_xtb (i := 50) (by decide +kernel) rfl
theorem lk_Jxc12de_7 {y : MethodName} (hy : y.cls = RJxc12de) : xLk y 7 1 0 := ⟨xc1, by decide, "java/util/AbstractList", (by rw [hy]; exact w_50), Or.inl rfl⟩
theorem w_45 : Cond.methodLink RJxa1e45 1 Lib.objectInit ∈ xtb := in_xtb (i := 45) (by decide +kernel) rfl
theorem w_65 : Cond.methodLink RX1 3 Lib.objectInit ∈ xtb := in_xtb (i := 65) (by decide +kernel) rfl
theorem w_67 : Cond.methodLink RX1 11 yJx4a65c_init_da8c8 ∈ xtb := in_xtb (i := 67) (by decide +kernel) rfl
theorem w_66 : Cond.classLink RX1 9 RJx4a65c ∈ xtb := in_xtb (i := 66) (by decide +kernel) rfl
theorem w_68 : Cond.fieldLink RX1 12 "ReadersRoom$Catalogue" "lines" "Ljava/util/ArrayList;" ∈ xtb := in_xtb (i := 68) (by decide +kernel) rfl
theorem lk_X1_12 {y : MethodName} (hy : y.cls = RX1) : xLk y 12 3 0 := ⟨xc3, by decide, "ReadersRoom$Catalogue", (by rw [hy]; exact w_68), Or.inl rfl⟩
theorem w_70 : Cond.fieldLink RX1 18 "ReadersRoom$Catalogue" "many" "I" ∈ xtb := in_xtb (i := 70) (by decide +kernel) rfl
theorem lk_X1_18 {y : MethodName} (hy : y.cls = RX1) : xLk y 18 3 1 := ⟨xc3, by decide, "ReadersRoom$Catalogue", (by rw [hy]; exact w_70), Or.inl rfl⟩
theorem w_72 : Cond.fieldLink RX1 22 "ReadersRoom$Catalogue" "marks" "[I" ∈ xtb := in_xtb (i := 72) (by decide +kernel) rfl
theorem lk_X1_22 {y : MethodName} (hy : y.cls = RX1) : xLk y 22 3 2 := ⟨xc3, by decide, "ReadersRoom$Catalogue", (by rw [hy]; exact w_72), Or.inl rfl⟩
theorem w_74 : Cond.fieldLink RX1 26 "ReadersRoom$Catalogue" "earlier" "[I" ∈ xtb := in_xtb (i := 74) (by decide +kernel) rfl
theorem lk_X1_26 {y : MethodName} (hy : y.cls = RX1) : xLk y 26 3 3 := ⟨xc3, by decide, "ReadersRoom$Catalogue", (by rw [hy]; exact w_74), Or.inl rfl⟩
theorem w_129 : Cond.methodLink RX6 3 Lib.objectInit ∈ xtb := in_xtb (i := 129) (by decide +kernel) rfl
theorem w_132 : Cond.fieldLink RX6 9 "ReadersRoom$Mover" "classes" "I" ∈ xtb := in_xtb (i := 132) (by decide +kernel) rfl
theorem lk_X6_9 {y : MethodName} (hy : y.cls = RX6) : xLk y 9 8 0 := ⟨xc8, by decide, "ReadersRoom$Mover", (by rw [hy]; exact w_132), Or.inl rfl⟩
theorem w_134 : Cond.fieldLink RX6 15 "ReadersRoom$Mover" "shelves" "[I" ∈ xtb := in_xtb (i := 134) (by decide +kernel) rfl
theorem lk_X6_15 {y : MethodName} (hy : y.cls = RX6) : xLk y 15 8 1 := ⟨xc8, by decide, "ReadersRoom$Mover", (by rw [hy]; exact w_134), Or.inl rfl⟩
theorem w_130 : Cond.classLink RX6 19 "[[I" ∈ xtb := in_xtb (i := 130) (by decide +kernel) rfl
theorem w_136 : Cond.fieldLink RX6 21 "ReadersRoom$Mover" "fewest" "[[I" ∈ xtb := in_xtb (i := 136) (by decide +kernel) rfl
theorem lk_X6_21 {y : MethodName} (hy : y.cls = RX6) : xLk y 21 8 2 := ⟨xc8, by decide, "ReadersRoom$Mover", (by rw [hy]; exact w_136), Or.inl rfl⟩
theorem w_137 : Cond.fieldLink RX6 24 "ReadersRoom$Mover" "ends" "[[I" ∈ xtb := in_xtb (i := 137) (by decide +kernel) rfl
theorem lk_X6_24 {y : MethodName} (hy : y.cls = RX6) : xLk y 24 8 3 := ⟨xc8, by decide, "ReadersRoom$Mover", (by rw [hy]; exact w_137), Or.inl rfl⟩
theorem w_90 : Cond.methodLink RX7 3 Lib.objectInit ∈ xtb := in_xtb (i := 90) (by decide +kernel) rfl
theorem w_91 : Cond.fieldLink RX7 9 "ReadersRoom$Rounds" "paces" "[I" ∈ xtb := in_xtb (i := 91) (by decide +kernel) rfl
theorem lk_X7_9 {y : MethodName} (hy : y.cls = RX7) : xLk y 9 9 0 := ⟨xc9, by decide, "ReadersRoom$Rounds", (by rw [hy]; exact w_91), Or.inl rfl⟩
theorem w_93 : Cond.fieldLink RX7 15 "ReadersRoom$Rounds" "starts" "[I" ∈ xtb := in_xtb (i := 93) (by decide +kernel) rfl
theorem lk_X7_15 {y : MethodName} (hy : y.cls = RX7) : xLk y 15 9 1 := ⟨xc9, by decide, "ReadersRoom$Rounds", (by rw [hy]; exact w_93), Or.inl rfl⟩
theorem w_95 : Cond.fieldLink RX7 18 "ReadersRoom$Rounds" "best" "[I" ∈ xtb := in_xtb (i := 95) (by decide +kernel) rfl
theorem lk_X7_18 {y : MethodName} (hy : y.cls = RX7) : xLk y 18 9 2 := ⟨xc9, by decide, "ReadersRoom$Rounds", (by rw [hy]; exact w_95), Or.inl rfl⟩
theorem w_97 : Cond.fieldLink RX7 21 "ReadersRoom$Rounds" "many" "I" ∈ xtb := in_xtb (i := 97) (by decide +kernel) rfl
theorem lk_X7_21 {y : MethodName} (hy : y.cls = RX7) : xLk y 21 9 3 := ⟨xc9, by decide, "ReadersRoom$Rounds", (by rw [hy]; exact w_97), Or.inl rfl⟩
theorem w_99 : Cond.fieldLink RX7 25 "ReadersRoom$Rounds" "least" "I" ∈ xtb := in_xtb (i := 99) (by decide +kernel) rfl
theorem lk_X7_25 {y : MethodName} (hy : y.cls = RX7) : xLk y 25 9 4 := ⟨xc9, by decide, "ReadersRoom$Rounds", (by rw [hy]; exact w_99), Or.inl rfl⟩
theorem w_101 : Cond.fieldLink RX7 28 "ReadersRoom$Rounds" "floors" "[I" ∈ xtb := in_xtb (i := 101) (by decide +kernel) rfl
theorem lk_X7_28 {y : MethodName} (hy : y.cls = RX7) : xLk y 28 9 5 := ⟨xc9, by decide, "ReadersRoom$Rounds", (by rw [hy]; exact w_101), Or.inl rfl⟩
theorem w_102 : Cond.fieldLink RX7 31 "ReadersRoom$Rounds" "order" "[I" ∈ xtb := in_xtb (i := 102) (by decide +kernel) rfl
theorem lk_X7_31 {y : MethodName} (hy : y.cls = RX7) : xLk y 31 9 6 := ⟨xc9, by decide, "ReadersRoom$Rounds", (by rw [hy]; exact w_102), Or.inl rfl⟩
theorem w_103 : Cond.fieldLink RX7 34 "ReadersRoom$Rounds" "ends" "[I" ∈ xtb := in_xtb (i := 103) (by decide +kernel) rfl
theorem lk_X7_34 {y : MethodName} (hy : y.cls = RX7) : xLk y 34 9 7 := ⟨xc9, by decide, "ReadersRoom$Rounds", (by rw [hy]; exact w_103), Or.inl rfl⟩
theorem w_104 : Cond.fieldLink RX7 37 "ReadersRoom$Rounds" "given" "[I" ∈ xtb := in_xtb (i := 104) (by decide +kernel) rfl
theorem lk_X7_37 {y : MethodName} (hy : y.cls = RX7) : xLk y 37 9 8 := ⟨xc9, by decide, "ReadersRoom$Rounds", (by rw [hy]; exact w_104), Or.inl rfl⟩
theorem w_151 : Cond.methodLink RX8 3 Lib.objectInit ∈ xtb := in_xtb (i := 151) (by decide +kernel) rfl
theorem w_152 : Cond.fieldLink RX8 9 "ReadersRoom$Row" "size" "I" ∈ xtb := in_xtb (i := 152) (by decide +kernel) rfl
theorem lk_X8_9 {y : MethodName} (hy : y.cls = RX8) : xLk y 9 10 0 := ⟨xc10, by decide, "ReadersRoom$Row", (by rw [hy]; exact w_152), Or.inl rfl⟩
theorem w_155 : Cond.fieldLink RX8 15 "ReadersRoom$Row" "places" "[I" ∈ xtb := in_xtb (i := 155) (by decide +kernel) rfl
theorem lk_X8_15 {y : MethodName} (hy : y.cls = RX8) : xLk y 15 10 1 := ⟨xc10, by decide, "ReadersRoom$Row", (by rw [hy]; exact w_155), Or.inl rfl⟩
theorem w_1 : Cond.initialized yX11_rowAt.cls ∈ xtb := in_xtb (i := 1) (by decide +kernel) rfl
theorem w_234 : Cond.code yX11_rowAt cX11_rowAt 2 (some (.object "ReadersRoom$Row")) ∈ xtb := in_xtb (i := 234) (by decide +kernel) rfl
theorem cb_X11_rowAt : xCb yX11_rowAt cX11_rowAt 2 (some (.object "ReadersRoom$Row")) 1 := ⟨w_1, w_234, by decide, by decide, by decide +kernel⟩
theorem w_231 : Cond.methodLink RX11 95 yX11_rowAt ∈ xtb := in_xtb (i := 231) (by decide +kernel) rfl
theorem w_233 : Cond.instanceMethod yX11_rowAt ∈ xtb := in_xtb (i := 233) (by decide +kernel) rfl
theorem v_0 : Cond.selects yX11_rowAt.cls yX11_rowAt yX11_rowAt ∈ xtb := in_priv (i := 0) (by decide +kernel) rfl
theorem w_238 : Cond.code yX11_found cX11_found 2 (some .int) ∈ xtb := in_xtb (i := 238) (by decide +kernel) rfl
theorem cb_X11_found : xCb yX11_found cX11_found 2 (some .int) 1 := ⟨w_1, w_238, by decide, by decide, by decide +kernel⟩
theorem w_235 : Cond.methodLink RX11 99 yX11_found ∈ xtb := in_xtb (i := 235) (by decide +kernel) rfl
theorem w_237 : Cond.instanceMethod yX11_found ∈ xtb := in_xtb (i := 237) (by decide +kernel) rfl
theorem v_1 : Cond.selects yX11_found.cls yX11_found yX11_found ∈ xtb := in_priv (i := 1) (by decide +kernel) rfl
theorem w_242 : Cond.code yX8_begin cX8_begin 4 (none) ∈ xtb := in_xtb (i := 242) (by decide +kernel) rfl
theorem cb_X8_begin : xCb yX8_begin cX8_begin 4 (none) 2 := ⟨w_8, w_242, by decide, by decide, by decide +kernel⟩
theorem w_239 : Cond.methodLink RX11 103 yX8_begin ∈ xtb := in_xtb (i := 239) (by decide +kernel) rfl
theorem w_240 : Cond.instanceMethod yX8_begin ∈ xtb := in_xtb (i := 240) (by decide +kernel) rfl
theorem w_241 : Cond.selects yX8_begin.cls yX8_begin yX8_begin ∈ xtb := in_xtb (i := 241) (by decide +kernel) rfl
theorem w_250 : Cond.code yX8_isMissing cX8_isMissing 1 (some .boolean) ∈ xtb := in_xtb (i := 250) (by decide +kernel) rfl
theorem cb_X8_isMissing : xCb yX8_isMissing cX8_isMissing 1 (some .boolean) 0 := ⟨w_8, w_250, by decide, by decide, by decide +kernel⟩
theorem w_247 : Cond.methodLink RX11 107 yX8_isMissing ∈ xtb := in_xtb (i := 247) (by decide +kernel) rfl
theorem w_248 : Cond.instanceMethod yX8_isMissing ∈ xtb := in_xtb (i := 248) (by decide +kernel) rfl
theorem w_249 : Cond.selects yX8_isMissing.cls yX8_isMissing yX8_isMissing ∈ xtb := in_xtb (i := 249) (by decide +kernel) rfl
theorem w_254 : Cond.code yX8_hasPlace cX8_hasPlace 2 (some .boolean) ∈ xtb := in_xtb (i := 254) (by decide +kernel) rfl
theorem cb_X8_hasPlace : xCb yX8_hasPlace cX8_hasPlace 2 (some .boolean) 1 := ⟨w_8, w_254, by decide, by decide, by decide +kernel⟩
theorem w_251 : Cond.methodLink RX11 111 yX8_hasPlace ∈ xtb := in_xtb (i := 251) (by decide +kernel) rfl
theorem w_252 : Cond.instanceMethod yX8_hasPlace ∈ xtb := in_xtb (i := 252) (by decide +kernel) rfl
theorem w_253 : Cond.selects yX8_hasPlace.cls yX8_hasPlace yX8_hasPlace ∈ xtb := in_xtb (i := 253) (by decide +kernel) rfl
theorem w_157 : Cond.fieldLink RX11 115 "ReadersRoom$Row" "places" "[I" ∈ xtb := in_xtb (i := 157) (by decide +kernel) rfl
theorem lk_X11_115 {y : MethodName} (hy : y.cls = RX11) : xLk y 115 10 1 := ⟨xc10, by decide, "ReadersRoom$Row", (by rw [hy]; exact w_157), Or.inl rfl⟩
theorem w_154 : Cond.fieldLink RX11 118 "ReadersRoom$Row" "size" "I" ∈ xtb := in_xtb (i := 154) (by decide +kernel) rfl
theorem lk_X11_118 {y : MethodName} (hy : y.cls = RX11) : xLk y 118 10 0 := ⟨xc10, by decide, "ReadersRoom$Row", (by rw [hy]; exact w_154), Or.inl rfl⟩
theorem w_266 : Cond.code yX8_hasPlaces cX8_hasPlaces 3 (some .boolean) ∈ xtb := in_xtb (i := 266) (by decide +kernel) rfl
theorem cb_X8_hasPlaces : xCb yX8_hasPlaces cX8_hasPlaces 3 (some .boolean) 2 := ⟨w_8, w_266, by decide, by decide, by decide +kernel⟩
theorem w_263 : Cond.methodLink RX11 121 yX8_hasPlaces ∈ xtb := in_xtb (i := 263) (by decide +kernel) rfl
theorem w_264 : Cond.instanceMethod yX8_hasPlaces ∈ xtb := in_xtb (i := 264) (by decide +kernel) rfl
theorem w_265 : Cond.selects yX8_hasPlaces.cls yX8_hasPlaces yX8_hasPlaces ∈ xtb := in_xtb (i := 265) (by decide +kernel) rfl
theorem w_267 : Cond.methodLink RX11 125 arraycopyName ∈ xtb := in_xtb (i := 267) (by decide +kernel) rfl
theorem w_277 : Cond.code yX8_sum cX8_sum 4 (some .long) ∈ xtb := in_xtb (i := 277) (by decide +kernel) rfl
theorem cb_X8_sum : xCb yX8_sum cX8_sum 4 (some .long) 0 := ⟨w_8, w_277, by decide, by decide, by decide +kernel⟩
theorem w_274 : Cond.methodLink RX11 131 yX8_sum ∈ xtb := in_xtb (i := 274) (by decide +kernel) rfl
theorem w_275 : Cond.instanceMethod yX8_sum ∈ xtb := in_xtb (i := 275) (by decide +kernel) rfl
theorem w_276 : Cond.selects yX8_sum.cls yX8_sum yX8_sum ∈ xtb := in_xtb (i := 276) (by decide +kernel) rfl
theorem w_285 : Cond.code yX11_textAt cX11_textAt 2 (some (.object "ReadersRoom$Row")) ∈ xtb := in_xtb (i := 285) (by decide +kernel) rfl
theorem cb_X11_textAt : xCb yX11_textAt cX11_textAt 2 (some (.object "ReadersRoom$Row")) 1 := ⟨w_1, w_285, by decide, by decide, by decide +kernel⟩
theorem w_282 : Cond.methodLink RX11 135 yX11_textAt ∈ xtb := in_xtb (i := 282) (by decide +kernel) rfl
theorem w_284 : Cond.instanceMethod yX11_textAt ∈ xtb := in_xtb (i := 284) (by decide +kernel) rfl
theorem v_2 : Cond.selects yX11_textAt.cls yX11_textAt yX11_textAt ∈ xtb := in_priv (i := 2) (by decide +kernel) rfl
theorem w_294 : Cond.constant RX11 138 99999 ∈ xtb := in_xtb (i := 294) (by decide +kernel) rfl
theorem w_298 : Cond.code yJx4a65c_size_8abf5 cJx4a65c_size_8abf5 1 (some .int) ∈ xtb := in_xtb (i := 298) (by decide +kernel) rfl
theorem cb_Jx4a65c_size_8abf5 : xCb yJx4a65c_size_8abf5 cJx4a65c_size_8abf5 1 (some .int) 0 := ⟨w_4, w_298, by decide, by decide, by decide +kernel⟩
theorem w_295 : Cond.methodLink RX11 139 yJx4a65c_size_8abf5 ∈ xtb := in_xtb (i := 295) (by decide +kernel) rfl
theorem w_296 : Cond.instanceMethod yJx4a65c_size_8abf5 ∈ xtb := in_xtb (i := 296) (by decide +kernel) rfl
theorem w_297 : Cond.selects yJx4a65c_size_8abf5.cls yJx4a65c_size_8abf5 yJx4a65c_size_8abf5 ∈ xtb := in_xtb (i := 297) (by decide +kernel) rfl
theorem w_317 : Cond.code yX11_letArrive cX11_letArrive 2 (none) ∈ xtb := in_xtb (i := 317) (by decide +kernel) rfl
theorem cb_X11_letArrive : xCb yX11_letArrive cX11_letArrive 2 (none) 1 := ⟨w_1, w_317, by decide, by decide, by decide +kernel⟩
theorem w_302 : Cond.code yJx4a65c_get_915e3 cJx4a65c_get_915e3 2 (some (.object "java/lang/Object")) ∈ xtb := in_xtb (i := 302) (by decide +kernel) rfl
theorem cb_Jx4a65c_get_915e3 : xCb yJx4a65c_get_915e3 cJx4a65c_get_915e3 2 (some (.object "java/lang/Object")) 1 := ⟨w_4, w_302, by decide, by decide, by decide +kernel⟩
theorem w_299 : Cond.methodLink RX11 142 yJx4a65c_get_915e3 ∈ xtb := in_xtb (i := 299) (by decide +kernel) rfl
theorem w_300 : Cond.instanceMethod yJx4a65c_get_915e3 ∈ xtb := in_xtb (i := 300) (by decide +kernel) rfl
theorem w_301 : Cond.selects yJx4a65c_get_915e3.cls yJx4a65c_get_915e3 yJx4a65c_get_915e3 ∈ xtb := in_xtb (i := 301) (by decide +kernel) rfl
theorem w_313 : Cond.classLink RX11 146 RX0 ∈ xtb := in_xtb (i := 313) (by decide +kernel) rfl
theorem w_314 : Cond.methodLink RX11 148 yX11_letArrive ∈ xtb := in_xtb (i := 314) (by decide +kernel) rfl
theorem w_316 : Cond.instanceMethod yX11_letArrive ∈ xtb := in_xtb (i := 316) (by decide +kernel) rfl
theorem v_3 : Cond.selects yX11_letArrive.cls yX11_letArrive yX11_letArrive ∈ xtb := in_priv (i := 3) (by decide +kernel) rfl
theorem w_11 : Cond.initialized yJ15_checkIndex_7cf53.cls ∈ xtb := in_xtb (i := 11) (by decide +kernel) rfl
theorem w_305 : Cond.code yJ15_checkIndex_7cf53 cJ15_checkIndex_7cf53 2 (some .int) ∈ xtb := in_xtb (i := 305) (by decide +kernel) rfl
theorem cb_J15_checkIndex_7cf53 : xCb yJ15_checkIndex_7cf53 cJ15_checkIndex_7cf53 2 (some .int) 2 := ⟨w_11, w_305, by decide, by decide, by decide +kernel⟩
theorem w_49 : Cond.fieldLink RJx4a65c 48 "java/util/ArrayList" "size" "I" ∈ xtb := in_xtb (i := 49) (by decide +kernel) rfl
theorem lk_Jx4a65c_48 {y : MethodName} (hy : y.cls = RJx4a65c) : xLk y 48 1 2 := ⟨xc1, by decide, "java/util/ArrayList", (by rw [hy]; exact w_49), Or.inl rfl⟩
theorem w_304 : Cond.static yJ15_checkIndex_7cf53 ∈ xtb := in_xtb (i := 304) (by decide +kernel) rfl
theorem w_303 : Cond.methodLink RJx4a65c 118 yJ15_checkIndex_7cf53 ∈ xtb := in_xtb (i := 303) (by decide +kernel) rfl
theorem w_312 : Cond.code yJx4a65c_elementData_915e3 cJx4a65c_elementData_915e3 2 (some (.object "java/lang/Object")) ∈ xtb := in_xtb (i := 312) (by decide +kernel) rfl
theorem cb_Jx4a65c_elementData_915e3 : xCb yJx4a65c_elementData_915e3 cJx4a65c_elementData_915e3 2 (some (.object "java/lang/Object")) 1 := ⟨w_4, w_312, by decide, by decide, by decide +kernel⟩
theorem w_309 : Cond.methodLink RJx4a65c 123 yJx4a65c_elementData_915e3 ∈ xtb := in_xtb (i := 309) (by decide +kernel) rfl
theorem w_310 : Cond.instanceMethod yJx4a65c_elementData_915e3 ∈ xtb := in_xtb (i := 310) (by decide +kernel) rfl
theorem w_311 : Cond.selects yJx4a65c_elementData_915e3.cls yJx4a65c_elementData_915e3 yJx4a65c_elementData_915e3 ∈ xtb := in_xtb (i := 311) (by decide +kernel) rfl
theorem w_12 : Cond.initialized yJ3_checkIndex_8e157.cls ∈ xtb := in_xtb (i := 12) (by decide +kernel) rfl
theorem w_308 : Cond.code yJ3_checkIndex_8e157 cJ3_checkIndex_8e157 3 (some .int) ∈ xtb := in_xtb (i := 308) (by decide +kernel) rfl
theorem cb_J3_checkIndex_8e157 : xCb yJ3_checkIndex_8e157 cJ3_checkIndex_8e157 3 (some .int) 3 := ⟨w_12, w_308, by decide, by decide, by decide +kernel⟩
theorem w_307 : Cond.static yJ3_checkIndex_8e157 ∈ xtb := in_xtb (i := 307) (by decide +kernel) rfl
theorem w_306 : Cond.methodLink RJ15 105 yJ3_checkIndex_8e157 ∈ xtb := in_xtb (i := 306) (by decide +kernel) rfl
theorem w_455 : Cond.fieldLink RX11 181 "ReadersRoom$Book" "kind" "I" ∈ xtb := in_xtb (i := 455) (by decide +kernel) rfl
theorem lk_X11_181 {y : MethodName} (hy : y.cls = RX11) : xLk y 181 2 4 := ⟨xc2, by decide, "ReadersRoom$Book", (by rw [hy]; exact w_455), Or.inl rfl⟩
theorem w_463 : Cond.fieldLink RX11 291 "ReadersRoom$Book" "goingTill" "I" ∈ xtb := in_xtb (i := 463) (by decide +kernel) rfl
theorem lk_X11_291 {y : MethodName} (hy : y.cls = RX11) : xLk y 291 2 8 := ⟨xc2, by decide, "ReadersRoom$Book", (by rw [hy]; exact w_463), Or.inl rfl⟩
theorem w_321 : Cond.code yX11_letSit cX11_letSit 4 (none) ∈ xtb := in_xtb (i := 321) (by decide +kernel) rfl
theorem cb_X11_letSit : xCb yX11_letSit cX11_letSit 4 (none) 1 := ⟨w_1, w_321, by decide, by decide, by decide +kernel⟩
theorem w_318 : Cond.methodLink RX11 479 yX11_letSit ∈ xtb := in_xtb (i := 318) (by decide +kernel) rfl
theorem w_320 : Cond.instanceMethod yX11_letSit ∈ xtb := in_xtb (i := 320) (by decide +kernel) rfl
theorem v_4 : Cond.selects yX11_letSit.cls yX11_letSit yX11_letSit ∈ xtb := in_priv (i := 4) (by decide +kernel) rfl
theorem w_459 : Cond.fieldLink RX11 184 "ReadersRoom$Book" "detail" "I" ∈ xtb := in_xtb (i := 459) (by decide +kernel) rfl
theorem lk_X11_184 {y : MethodName} (hy : y.cls = RX11) : xLk y 184 2 6 := ⟨xc2, by decide, "ReadersRoom$Book", (by rw [hy]; exact w_459), Or.inl rfl⟩
theorem w_17 : Cond.initialized yX0_comeHome.cls ∈ xtb := in_xtb (i := 17) (by decide +kernel) rfl
theorem w_421 : Cond.code yX0_comeHome cX0_comeHome 1 (none) ∈ xtb := in_xtb (i := 421) (by decide +kernel) rfl
theorem cb_X0_comeHome : xCb yX0_comeHome cX0_comeHome 1 (none) 0 := ⟨w_17, w_421, by decide, by decide, by decide +kernel⟩
theorem w_418 : Cond.methodLink RX11 209 yX0_comeHome ∈ xtb := in_xtb (i := 418) (by decide +kernel) rfl
theorem w_419 : Cond.instanceMethod yX0_comeHome ∈ xtb := in_xtb (i := 419) (by decide +kernel) rfl
theorem w_420 : Cond.selects yX0_comeHome.cls yX0_comeHome yX0_comeHome ∈ xtb := in_xtb (i := 420) (by decide +kernel) rfl
theorem w_426 : Cond.code yX0_endHad cX0_endHad 2 (none) ∈ xtb := in_xtb (i := 426) (by decide +kernel) rfl
theorem cb_X0_endHad : xCb yX0_endHad cX0_endHad 2 (none) 1 := ⟨w_17, w_426, by decide, by decide, by decide +kernel⟩
theorem w_423 : Cond.methodLink RX11 202 yX0_endHad ∈ xtb := in_xtb (i := 423) (by decide +kernel) rfl
theorem w_424 : Cond.instanceMethod yX0_endHad ∈ xtb := in_xtb (i := 424) (by decide +kernel) rfl
theorem w_425 : Cond.selects yX0_endHad.cls yX0_endHad yX0_endHad ∈ xtb := in_xtb (i := 425) (by decide +kernel) rfl
theorem w_329 : Cond.code yX0_comeTo cX0_comeTo 3 (none) ∈ xtb := in_xtb (i := 329) (by decide +kernel) rfl
theorem cb_X0_comeTo : xCb yX0_comeTo cX0_comeTo 3 (none) 2 := ⟨w_17, w_329, by decide, by decide, by decide +kernel⟩
theorem w_422 : Cond.methodLink RX0 52 yX0_comeTo ∈ xtb := in_xtb (i := 422) (by decide +kernel) rfl
theorem w_327 : Cond.instanceMethod yX0_comeTo ∈ xtb := in_xtb (i := 327) (by decide +kernel) rfl
theorem w_328 : Cond.selects yX0_comeTo.cls yX0_comeTo yX0_comeTo ∈ xtb := in_xtb (i := 328) (by decide +kernel) rfl
theorem w_454 : Cond.fieldLink RX0 9 "ReadersRoom$Book" "kind" "I" ∈ xtb := in_xtb (i := 454) (by decide +kernel) rfl
theorem lk_X0_9 {y : MethodName} (hy : y.cls = RX0) : xLk y 9 2 4 := ⟨xc2, by decide, "ReadersRoom$Book", (by rw [hy]; exact w_454), Or.inl rfl⟩
theorem w_458 : Cond.fieldLink RX0 18 "ReadersRoom$Book" "detail" "I" ∈ xtb := in_xtb (i := 458) (by decide +kernel) rfl
theorem lk_X0_18 {y : MethodName} (hy : y.cls = RX0) : xLk y 18 2 6 := ⟨xc2, by decide, "ReadersRoom$Book", (by rw [hy]; exact w_458), Or.inl rfl⟩
theorem w_334 : Cond.code yX0_believedAt cX0_believedAt 2 (some .int) ∈ xtb := in_xtb (i := 334) (by decide +kernel) rfl
theorem cb_X0_believedAt : xCb yX0_believedAt cX0_believedAt 2 (some .int) 1 := ⟨w_17, w_334, by decide, by decide, by decide +kernel⟩
theorem w_330 : Cond.methodLink RX0 48 yX0_believedAt ∈ xtb := in_xtb (i := 330) (by decide +kernel) rfl
theorem w_332 : Cond.instanceMethod yX0_believedAt ∈ xtb := in_xtb (i := 332) (by decide +kernel) rfl
theorem v_5 : Cond.selects yX0_believedAt.cls yX0_believedAt yX0_believedAt ∈ xtb := in_priv (i := 5) (by decide +kernel) rfl
theorem w_456 : Cond.fieldLink RX0 15 "ReadersRoom$Book" "believed" "I" ∈ xtb := in_xtb (i := 456) (by decide +kernel) rfl
theorem lk_X0_15 {y : MethodName} (hy : y.cls = RX0) : xLk y 15 2 5 := ⟨xc2, by decide, "ReadersRoom$Book", (by rw [hy]; exact w_456), Or.inl rfl⟩
theorem w_466 : Cond.fieldLink RX0 31 "ReadersRoom$Book" "had" "LReadersRoom$Had;" ∈ xtb := in_xtb (i := 466) (by decide +kernel) rfl
theorem lk_X0_31 {y : MethodName} (hy : y.cls = RX0) : xLk y 31 2 10 := ⟨xc2, by decide, "ReadersRoom$Book", (by rw [hy]; exact w_466), Or.inl rfl⟩
theorem w_348 : Cond.fieldLink RX0 56 "ReadersRoom$Had" "till" "I" ∈ xtb := in_xtb (i := 348) (by decide +kernel) rfl
theorem lk_X0_56 {y : MethodName} (hy : y.cls = RX0) : xLk y 56 5 3 := ⟨xc5, by decide, "ReadersRoom$Had", (by rw [hy]; exact w_348), Or.inl rfl⟩
theorem w_465 : Cond.fieldLink RX11 294 "ReadersRoom$Book" "goingFor" "LReadersRoom$Slip;" ∈ xtb := in_xtb (i := 465) (by decide +kernel) rfl
theorem lk_X11_294 {y : MethodName} (hy : y.cls = RX11) : xLk y 294 2 9 := ⟨xc2, by decide, "ReadersRoom$Book", (by rw [hy]; exact w_465), Or.inl rfl⟩
theorem w_19 : Cond.initialized yX10_end.cls ∈ xtb := in_xtb (i := 19) (by decide +kernel) rfl
theorem w_325 : Cond.code yX10_end cX10_end 3 (none) ∈ xtb := in_xtb (i := 325) (by decide +kernel) rfl
theorem cb_X10_end : xCb yX10_end cX10_end 3 (none) 2 := ⟨w_19, w_325, by decide, by decide, by decide +kernel⟩
theorem w_322 : Cond.methodLink RX11 266 yX10_end ∈ xtb := in_xtb (i := 322) (by decide +kernel) rfl
theorem w_323 : Cond.instanceMethod yX10_end ∈ xtb := in_xtb (i := 323) (by decide +kernel) rfl
theorem w_324 : Cond.selects yX10_end.cls yX10_end yX10_end ∈ xtb := in_xtb (i := 324) (by decide +kernel) rfl
theorem w_649 : Cond.fieldLink RX11 348 "ReadersRoom$Slip" "reader" "I" ∈ xtb := in_xtb (i := 649) (by decide +kernel) rfl
theorem lk_X11_348 {y : MethodName} (hy : y.cls = RX11) : xLk y 348 12 0 := ⟨xc12, by decide, "ReadersRoom$Slip", (by rw [hy]; exact w_649), Or.inl rfl⟩
theorem w_326 : Cond.methodLink RX11 199 yX0_comeTo ∈ xtb := in_xtb (i := 326) (by decide +kernel) rfl
theorem w_461 : Cond.fieldLink RX11 178 "ReadersRoom$Book" "reader" "I" ∈ xtb := in_xtb (i := 461) (by decide +kernel) rfl
theorem lk_X11_178 {y : MethodName} (hy : y.cls = RX11) : xLk y 178 2 7 := ⟨xc2, by decide, "ReadersRoom$Book", (by rw [hy]; exact w_461), Or.inl rfl⟩
theorem w_447 : Cond.fieldLink RX11 335 "ReadersRoom$Book" "number" "I" ∈ xtb := in_xtb (i := 447) (by decide +kernel) rfl
theorem lk_X11_335 {y : MethodName} (hy : y.cls = RX11) : xLk y 335 2 0 := ⟨xc2, by decide, "ReadersRoom$Book", (by rw [hy]; exact w_447), Or.inl rfl⟩
theorem w_13 : Cond.initialized yX3_init.cls ∈ xtb := in_xtb (i := 13) (by decide +kernel) rfl
theorem w_339 : Cond.code yX3_init cX3_init 4 (none) ∈ xtb := in_xtb (i := 339) (by decide +kernel) rfl
theorem cb_X3_init : xCb yX3_init cX3_init 4 (none) 3 := ⟨w_13, w_339, by decide, by decide, by decide +kernel⟩
theorem w_337 : Cond.methodLink RX11 484 yX3_init ∈ xtb := in_xtb (i := 337) (by decide +kernel) rfl
theorem w_335 : Cond.classLink RX11 482 RX3 ∈ xtb := in_xtb (i := 335) (by decide +kernel) rfl
theorem w_338 : Cond.instanceMethod yX3_init ∈ xtb := in_xtb (i := 338) (by decide +kernel) rfl
theorem w_467 : Cond.fieldLink RX11 486 "ReadersRoom$Book" "had" "LReadersRoom$Had;" ∈ xtb := in_xtb (i := 467) (by decide +kernel) rfl
theorem lk_X11_486 {y : MethodName} (hy : y.cls = RX11) : xLk y 486 2 10 := ⟨xc2, by decide, "ReadersRoom$Book", (by rw [hy]; exact w_467), Or.inl rfl⟩
theorem w_362 : Cond.code yJx4a65c_add_9ea2d cJx4a65c_add_9ea2d 2 (some .boolean) ∈ xtb := in_xtb (i := 362) (by decide +kernel) rfl
theorem cb_Jx4a65c_add_9ea2d : xCb yJx4a65c_add_9ea2d cJx4a65c_add_9ea2d 2 (some .boolean) 1 := ⟨w_4, w_362, by decide, by decide, by decide +kernel⟩
theorem w_359 : Cond.methodLink RX11 165 yJx4a65c_add_9ea2d ∈ xtb := in_xtb (i := 359) (by decide +kernel) rfl
theorem w_360 : Cond.instanceMethod yJx4a65c_add_9ea2d ∈ xtb := in_xtb (i := 360) (by decide +kernel) rfl
theorem w_361 : Cond.selects yJx4a65c_add_9ea2d.cls yJx4a65c_add_9ea2d yJx4a65c_add_9ea2d ∈ xtb := in_xtb (i := 361) (by decide +kernel) rfl
theorem w_51 : Cond.fieldLink RJx4a65c 63 "java/util/ArrayList" "modCount" "I" ∈ xtb := in_xtb (i := 51) (by decide +kernel) rfl
theorem w_52 : Cond.sameField "java/util/ArrayList" "java/util/AbstractList" "modCount" "I" ∈ xtb := in_xtb (i := 52) (by decide +kernel) rfl
theorem lk_Jx4a65c_63 {y : MethodName} (hy : y.cls = RJx4a65c) : xLk y 63 1 0 := ⟨xc1, by decide, "java/util/ArrayList", (by rw [hy]; exact w_51), Or.inr w_52⟩
theorem w_366 : Cond.code yJx4a65c_add_72be8 cJx4a65c_add_72be8 4 (none) ∈ xtb := in_xtb (i := 366) (by decide +kernel) rfl
theorem cb_Jx4a65c_add_72be8 : xCb yJx4a65c_add_72be8 cJx4a65c_add_72be8 4 (none) 3 := ⟨w_4, w_366, by decide, by decide, by decide +kernel⟩
theorem w_363 : Cond.methodLink RJx4a65c 131 yJx4a65c_add_72be8 ∈ xtb := in_xtb (i := 363) (by decide +kernel) rfl
theorem w_365 : Cond.instanceMethod yJx4a65c_add_72be8 ∈ xtb := in_xtb (i := 365) (by decide +kernel) rfl
theorem v_6 : Cond.selects yJx4a65c_add_72be8.cls yJx4a65c_add_72be8 yJx4a65c_add_72be8 ∈ xtb := in_priv (i := 6) (by decide +kernel) rfl
theorem w_370 : Cond.code yJx4a65c_grow_d5877 cJx4a65c_grow_d5877 1 (some (.array (.object "java/lang/Object"))) ∈ xtb := in_xtb (i := 370) (by decide +kernel) rfl
theorem cb_Jx4a65c_grow_d5877 : xCb yJx4a65c_grow_d5877 cJx4a65c_grow_d5877 1 (some (.array (.object "java/lang/Object"))) 0 := ⟨w_4, w_370, by decide, by decide, by decide +kernel⟩
theorem w_367 : Cond.methodLink RJx4a65c 129 yJx4a65c_grow_d5877 ∈ xtb := in_xtb (i := 367) (by decide +kernel) rfl
theorem w_369 : Cond.instanceMethod yJx4a65c_grow_d5877 ∈ xtb := in_xtb (i := 369) (by decide +kernel) rfl
theorem v_7 : Cond.selects yJx4a65c_grow_d5877.cls yJx4a65c_grow_d5877 yJx4a65c_grow_d5877 ∈ xtb := in_priv (i := 7) (by decide +kernel) rfl
theorem w_374 : Cond.code yJx4a65c_grow_92f84 cJx4a65c_grow_92f84 4 (some (.array (.object "java/lang/Object"))) ∈ xtb := in_xtb (i := 374) (by decide +kernel) rfl
theorem cb_Jx4a65c_grow_92f84 : xCb yJx4a65c_grow_92f84 cJx4a65c_grow_92f84 4 (some (.array (.object "java/lang/Object"))) 1 := ⟨w_4, w_374, by decide, by decide, by decide +kernel⟩
theorem w_371 : Cond.methodLink RJx4a65c 69 yJx4a65c_grow_92f84 ∈ xtb := in_xtb (i := 371) (by decide +kernel) rfl
theorem w_373 : Cond.instanceMethod yJx4a65c_grow_92f84 ∈ xtb := in_xtb (i := 373) (by decide +kernel) rfl
theorem v_8 : Cond.selects yJx4a65c_grow_92f84.cls yJx4a65c_grow_92f84 yJx4a65c_grow_92f84 ∈ xtb := in_priv (i := 8) (by decide +kernel) rfl
theorem w_14 : Cond.initialized yJ8_newLength_cabcc.cls ∈ xtb := in_xtb (i := 14) (by decide +kernel) rfl
theorem w_377 : Cond.code yJ8_newLength_cabcc cJ8_newLength_cabcc 4 (some .int) ∈ xtb := in_xtb (i := 377) (by decide +kernel) rfl
theorem cb_J8_newLength_cabcc : xCb yJ8_newLength_cabcc cJ8_newLength_cabcc 4 (some .int) 3 := ⟨w_14, w_377, by decide, by decide, by decide +kernel⟩
theorem w_376 : Cond.static yJ8_newLength_cabcc ∈ xtb := in_xtb (i := 376) (by decide +kernel) rfl
theorem w_375 : Cond.methodLink RJx4a65c 73 yJ8_newLength_cabcc ∈ xtb := in_xtb (i := 375) (by decide +kernel) rfl
theorem w_16 : Cond.initialized yJ7_copyOf_1904c.cls ∈ xtb := in_xtb (i := 16) (by decide +kernel) rfl
theorem w_387 : Cond.code yJ7_copyOf_1904c cJ7_copyOf_1904c 2 (some (.array (.object "java/lang/Object"))) ∈ xtb := in_xtb (i := 387) (by decide +kernel) rfl
theorem cb_J7_copyOf_1904c : xCb yJ7_copyOf_1904c cJ7_copyOf_1904c 2 (some (.array (.object "java/lang/Object"))) 2 := ⟨w_16, w_387, by decide, by decide, by decide +kernel⟩
theorem w_386 : Cond.static yJ7_copyOf_1904c ∈ xtb := in_xtb (i := 386) (by decide +kernel) rfl
theorem w_385 : Cond.methodLink RJx4a65c 66 yJ7_copyOf_1904c ∈ xtb := in_xtb (i := 385) (by decide +kernel) rfl
theorem w_416 : Cond.methodLink RJx4a65c 79 Lib.Math.max.name ∈ xtb := in_xtb (i := 416) (by decide +kernel) rfl
theorem w_417 : Cond.classLink RJx4a65c 7 "java/lang/Object" ∈ xtb := in_xtb (i := 417) (by decide +kernel) rfl
theorem w_408 : Cond.code yJ7_copyOf_6403c cJ7_copyOf_6403c 4 (some (.array (.object "java/lang/Object"))) ∈ xtb := in_xtb (i := 408) (by decide +kernel) rfl
theorem cb_J7_copyOf_6403c : xCb yJ7_copyOf_6403c cJ7_copyOf_6403c 4 (some (.array (.object "java/lang/Object"))) 3 := ⟨w_16, w_408, by decide, by decide, by decide +kernel⟩
theorem w_388 : Cond.methodLink RJ7 86 ⟨"java/lang/Object", "getClass", "()Ljava/lang/Class;"⟩ ∈ xtb := in_xtb (i := 388) (by decide +kernel) rfl
theorem w_407 : Cond.static yJ7_copyOf_6403c ∈ xtb := in_xtb (i := 407) (by decide +kernel) rfl
theorem w_406 : Cond.methodLink RJ7 300 yJ7_copyOf_6403c ∈ xtb := in_xtb (i := 406) (by decide +kernel) rfl
theorem w_409 : Cond.classLink RJ7 110 "[Ljava/lang/Object;" ∈ xtb := in_xtb (i := 409) (by decide +kernel) rfl
theorem w_411 : Cond.classLink RJ7 2 "java/lang/Object" ∈ xtb := in_xtb (i := 411) (by decide +kernel) rfl
theorem w_412 : Cond.methodLink RJ7 304 Lib.Math.min.name ∈ xtb := in_xtb (i := 412) (by decide +kernel) rfl
theorem w_415 : Cond.methodLink RJ7 150 arraycopyName ∈ xtb := in_xtb (i := 415) (by decide +kernel) rfl
theorem w_378 : Cond.methodLink RJ8 194 Lib.Math.max.name ∈ xtb := in_xtb (i := 378) (by decide +kernel) rfl
theorem w_381 : Cond.constant RJ8 200 2147483639 ∈ xtb := in_xtb (i := 381) (by decide +kernel) rfl
theorem w_340 : Cond.methodLink RX3 3 Lib.objectInit ∈ xtb := in_xtb (i := 340) (by decide +kernel) rfl
theorem w_347 : Cond.fieldLink RX3 9 "ReadersRoom$Had" "till" "I" ∈ xtb := in_xtb (i := 347) (by decide +kernel) rfl
theorem lk_X3_9 {y : MethodName} (hy : y.cls = RX3) : xLk y 9 5 3 := ⟨xc5, by decide, "ReadersRoom$Had", (by rw [hy]; exact w_347), Or.inl rfl⟩
theorem w_341 : Cond.fieldLink RX3 15 "ReadersRoom$Had" "book" "I" ∈ xtb := in_xtb (i := 341) (by decide +kernel) rfl
theorem lk_X3_15 {y : MethodName} (hy : y.cls = RX3) : xLk y 15 5 0 := ⟨xc5, by decide, "ReadersRoom$Had", (by rw [hy]; exact w_341), Or.inl rfl⟩
theorem w_343 : Cond.fieldLink RX3 18 "ReadersRoom$Had" "reader" "I" ∈ xtb := in_xtb (i := 343) (by decide +kernel) rfl
theorem lk_X3_18 {y : MethodName} (hy : y.cls = RX3) : xLk y 18 5 1 := ⟨xc5, by decide, "ReadersRoom$Had", (by rw [hy]; exact w_343), Or.inl rfl⟩
theorem w_345 : Cond.fieldLink RX3 21 "ReadersRoom$Had" "from" "I" ∈ xtb := in_xtb (i := 345) (by decide +kernel) rfl
theorem lk_X3_21 {y : MethodName} (hy : y.cls = RX3) : xLk y 21 5 2 := ⟨xc5, by decide, "ReadersRoom$Had", (by rw [hy]; exact w_345), Or.inl rfl⟩
theorem w_656 : Cond.fieldLink RX10 9 "ReadersRoom$Slip" "how" "I" ∈ xtb := in_xtb (i := 656) (by decide +kernel) rfl
theorem lk_X10_9 {y : MethodName} (hy : y.cls = RX10) : xLk y 9 12 4 := ⟨xc12, by decide, "ReadersRoom$Slip", (by rw [hy]; exact w_656), Or.inl rfl⟩
theorem w_658 : Cond.fieldLink RX10 15 "ReadersRoom$Slip" "endedAt" "I" ∈ xtb := in_xtb (i := 658) (by decide +kernel) rfl
theorem lk_X10_15 {y : MethodName} (hy : y.cls = RX10) : xLk y 15 12 5 := ⟨xc12, by decide, "ReadersRoom$Slip", (by rw [hy]; exact w_658), Or.inl rfl⟩
theorem w_433 : Cond.code yX11_isMark cX11_isMark 1 (some .boolean) ∈ xtb := in_xtb (i := 433) (by decide +kernel) rfl
theorem cb_X11_isMark : xCb yX11_isMark cX11_isMark 1 (some .boolean) 1 := ⟨w_1, w_433, by decide, by decide, by decide +kernel⟩
theorem w_432 : Cond.static yX11_isMark ∈ xtb := in_xtb (i := 432) (by decide +kernel) rfl
theorem w_431 : Cond.methodLink RX11 152 yX11_isMark ∈ xtb := in_xtb (i := 431) (by decide +kernel) rfl
theorem w_436 : Cond.code yX11_isShelf cX11_isShelf 1 (some .boolean) ∈ xtb := in_xtb (i := 436) (by decide +kernel) rfl
theorem cb_X11_isShelf : xCb yX11_isShelf cX11_isShelf 1 (some .boolean) 1 := ⟨w_1, w_436, by decide, by decide, by decide +kernel⟩
theorem w_435 : Cond.static yX11_isShelf ∈ xtb := in_xtb (i := 435) (by decide +kernel) rfl
theorem w_434 : Cond.methodLink RX11 155 yX11_isShelf ∈ xtb := in_xtb (i := 434) (by decide +kernel) rfl
theorem w_440 : Cond.code yX11_bookMarked cX11_bookMarked 3 (some (.object "ReadersRoom$Book")) ∈ xtb := in_xtb (i := 440) (by decide +kernel) rfl
theorem cb_X11_bookMarked : xCb yX11_bookMarked cX11_bookMarked 3 (some (.object "ReadersRoom$Book")) 1 := ⟨w_1, w_440, by decide, by decide, by decide +kernel⟩
theorem w_437 : Cond.methodLink RX11 158 yX11_bookMarked ∈ xtb := in_xtb (i := 437) (by decide +kernel) rfl
theorem w_439 : Cond.instanceMethod yX11_bookMarked ∈ xtb := in_xtb (i := 439) (by decide +kernel) rfl
theorem v_9 : Cond.selects yX11_bookMarked.cls yX11_bookMarked yX11_bookMarked ∈ xtb := in_priv (i := 9) (by decide +kernel) rfl
theorem w_443 : Cond.code yX0_init cX0_init 5 (none) ∈ xtb := in_xtb (i := 443) (by decide +kernel) rfl
theorem cb_X0_init : xCb yX0_init cX0_init 5 (none) 4 := ⟨w_17, w_443, by decide, by decide, by decide +kernel⟩
theorem w_441 : Cond.methodLink RX11 162 yX0_init ∈ xtb := in_xtb (i := 441) (by decide +kernel) rfl
theorem w_442 : Cond.instanceMethod yX0_init ∈ xtb := in_xtb (i := 442) (by decide +kernel) rfl
theorem w_444 : Cond.methodLink RX0 3 Lib.objectInit ∈ xtb := in_xtb (i := 444) (by decide +kernel) rfl
theorem w_460 : Cond.fieldLink RX0 21 "ReadersRoom$Book" "reader" "I" ∈ xtb := in_xtb (i := 460) (by decide +kernel) rfl
theorem lk_X0_21 {y : MethodName} (hy : y.cls = RX0) : xLk y 21 2 7 := ⟨xc2, by decide, "ReadersRoom$Book", (by rw [hy]; exact w_460), Or.inl rfl⟩
theorem w_462 : Cond.fieldLink RX0 24 "ReadersRoom$Book" "goingTill" "I" ∈ xtb := in_xtb (i := 462) (by decide +kernel) rfl
theorem lk_X0_24 {y : MethodName} (hy : y.cls = RX0) : xLk y 24 2 8 := ⟨xc2, by decide, "ReadersRoom$Book", (by rw [hy]; exact w_462), Or.inl rfl⟩
theorem w_464 : Cond.fieldLink RX0 27 "ReadersRoom$Book" "goingFor" "LReadersRoom$Slip;" ∈ xtb := in_xtb (i := 464) (by decide +kernel) rfl
theorem lk_X0_27 {y : MethodName} (hy : y.cls = RX0) : xLk y 27 2 9 := ⟨xc2, by decide, "ReadersRoom$Book", (by rw [hy]; exact w_464), Or.inl rfl⟩
theorem w_445 : Cond.fieldLink RX0 35 "ReadersRoom$Book" "number" "I" ∈ xtb := in_xtb (i := 445) (by decide +kernel) rfl
theorem lk_X0_35 {y : MethodName} (hy : y.cls = RX0) : xLk y 35 2 0 := ⟨xc2, by decide, "ReadersRoom$Book", (by rw [hy]; exact w_445), Or.inl rfl⟩
theorem w_448 : Cond.fieldLink RX0 38 "ReadersRoom$Book" "mark" "I" ∈ xtb := in_xtb (i := 448) (by decide +kernel) rfl
theorem lk_X0_38 {y : MethodName} (hy : y.cls = RX0) : xLk y 38 2 1 := ⟨xc2, by decide, "ReadersRoom$Book", (by rw [hy]; exact w_448), Or.inl rfl⟩
theorem w_450 : Cond.fieldLink RX0 41 "ReadersRoom$Book" "shelf" "I" ∈ xtb := in_xtb (i := 450) (by decide +kernel) rfl
theorem lk_X0_41 {y : MethodName} (hy : y.cls = RX0) : xLk y 41 2 2 := ⟨xc2, by decide, "ReadersRoom$Book", (by rw [hy]; exact w_450), Or.inl rfl⟩
theorem w_452 : Cond.fieldLink RX0 44 "ReadersRoom$Book" "rare" "Z" ∈ xtb := in_xtb (i := 452) (by decide +kernel) rfl
theorem lk_X0_44 {y : MethodName} (hy : y.cls = RX0) : xLk y 44 2 3 := ⟨xc2, by decide, "ReadersRoom$Book", (by rw [hy]; exact w_452), Or.inl rfl⟩
theorem w_449 : Cond.fieldLink RX11 490 "ReadersRoom$Book" "mark" "I" ∈ xtb := in_xtb (i := 449) (by decide +kernel) rfl
theorem lk_X11_490 {y : MethodName} (hy : y.cls = RX11) : xLk y 490 2 1 := ⟨xc2, by decide, "ReadersRoom$Book", (by rw [hy]; exact w_449), Or.inl rfl⟩
theorem w_498 : Cond.code yX11_bookAt cX11_bookAt 2 (some (.object "ReadersRoom$Book")) ∈ xtb := in_xtb (i := 498) (by decide +kernel) rfl
theorem cb_X11_bookAt : xCb yX11_bookAt cX11_bookAt 2 (some (.object "ReadersRoom$Book")) 1 := ⟨w_1, w_498, by decide, by decide, by decide +kernel⟩
theorem w_495 : Cond.methodLink RX11 169 yX11_bookAt ∈ xtb := in_xtb (i := 495) (by decide +kernel) rfl
theorem w_497 : Cond.instanceMethod yX11_bookAt ∈ xtb := in_xtb (i := 497) (by decide +kernel) rfl
theorem v_10 : Cond.selects yX11_bookAt.cls yX11_bookAt yX11_bookAt ∈ xtb := in_priv (i := 10) (by decide +kernel) rfl
theorem w_502 : Cond.code yX0_tells cX0_tells 2 (some .int) ∈ xtb := in_xtb (i := 502) (by decide +kernel) rfl
theorem cb_X0_tells : xCb yX0_tells cX0_tells 2 (some .int) 1 := ⟨w_17, w_502, by decide, by decide, by decide +kernel⟩
theorem w_499 : Cond.methodLink RX11 172 yX0_tells ∈ xtb := in_xtb (i := 499) (by decide +kernel) rfl
theorem w_500 : Cond.instanceMethod yX0_tells ∈ xtb := in_xtb (i := 500) (by decide +kernel) rfl
theorem w_501 : Cond.selects yX0_tells.cls yX0_tells yX0_tells ∈ xtb := in_xtb (i := 501) (by decide +kernel) rfl
theorem w_510 : Cond.code yX0_isHad cX0_isHad 1 (some .boolean) ∈ xtb := in_xtb (i := 510) (by decide +kernel) rfl
theorem cb_X0_isHad : xCb yX0_isHad cX0_isHad 1 (some .boolean) 0 := ⟨w_17, w_510, by decide, by decide, by decide +kernel⟩
theorem w_507 : Cond.methodLink RX11 175 yX0_isHad ∈ xtb := in_xtb (i := 507) (by decide +kernel) rfl
theorem w_508 : Cond.instanceMethod yX0_isHad ∈ xtb := in_xtb (i := 508) (by decide +kernel) rfl
theorem w_509 : Cond.selects yX0_isHad.cls yX0_isHad yX0_isHad ∈ xtb := in_xtb (i := 509) (by decide +kernel) rfl
theorem w_517 : Cond.code yX11_isReader cX11_isReader 1 (some .boolean) ∈ xtb := in_xtb (i := 517) (by decide +kernel) rfl
theorem cb_X11_isReader : xCb yX11_isReader cX11_isReader 1 (some .boolean) 1 := ⟨w_1, w_517, by decide, by decide, by decide +kernel⟩
theorem w_516 : Cond.static yX11_isReader ∈ xtb := in_xtb (i := 516) (by decide +kernel) rfl
theorem w_515 : Cond.methodLink RX11 187 yX11_isReader ∈ xtb := in_xtb (i := 515) (by decide +kernel) rfl
theorem w_521 : Cond.code yX11_countHadBy cX11_countHadBy 4 (some .int) ∈ xtb := in_xtb (i := 521) (by decide +kernel) rfl
theorem cb_X11_countHadBy : xCb yX11_countHadBy cX11_countHadBy 4 (some .int) 1 := ⟨w_1, w_521, by decide, by decide, by decide +kernel⟩
theorem w_518 : Cond.methodLink RX11 190 yX11_countHadBy ∈ xtb := in_xtb (i := 518) (by decide +kernel) rfl
theorem w_520 : Cond.instanceMethod yX11_countHadBy ∈ xtb := in_xtb (i := 520) (by decide +kernel) rfl
theorem v_11 : Cond.selects yX11_countHadBy.cls yX11_countHadBy yX11_countHadBy ∈ xtb := in_priv (i := 11) (by decide +kernel) rfl
theorem w_528 : Cond.code yX11_dayOf cX11_dayOf 1 (some .int) ∈ xtb := in_xtb (i := 528) (by decide +kernel) rfl
theorem cb_X11_dayOf : xCb yX11_dayOf cX11_dayOf 1 (some .int) 1 := ⟨w_1, w_528, by decide, by decide, by decide +kernel⟩
theorem w_527 : Cond.static yX11_dayOf ∈ xtb := in_xtb (i := 527) (by decide +kernel) rfl
theorem w_526 : Cond.methodLink RX11 193 yX11_dayOf ∈ xtb := in_xtb (i := 526) (by decide +kernel) rfl
theorem w_532 : Cond.code yX11_inForceNow cX11_inForceNow 2 (some .int) ∈ xtb := in_xtb (i := 532) (by decide +kernel) rfl
theorem cb_X11_inForceNow : xCb yX11_inForceNow cX11_inForceNow 2 (some .int) 1 := ⟨w_1, w_532, by decide, by decide, by decide +kernel⟩
theorem w_529 : Cond.methodLink RX11 196 yX11_inForceNow ∈ xtb := in_xtb (i := 529) (by decide +kernel) rfl
theorem w_531 : Cond.instanceMethod yX11_inForceNow ∈ xtb := in_xtb (i := 531) (by decide +kernel) rfl
theorem v_12 : Cond.selects yX11_inForceNow.cls yX11_inForceNow yX11_inForceNow ∈ xtb := in_priv (i := 12) (by decide +kernel) rfl
theorem w_536 : Cond.code yX11_inForce cX11_inForce 5 (some .int) ∈ xtb := in_xtb (i := 536) (by decide +kernel) rfl
theorem cb_X11_inForce : xCb yX11_inForce cX11_inForce 5 (some .int) 3 := ⟨w_1, w_536, by decide, by decide, by decide +kernel⟩
theorem w_533 : Cond.methodLink RX11 229 yX11_inForce ∈ xtb := in_xtb (i := 533) (by decide +kernel) rfl
theorem w_535 : Cond.instanceMethod yX11_inForce ∈ xtb := in_xtb (i := 535) (by decide +kernel) rfl
theorem v_13 : Cond.selects yX11_inForce.cls yX11_inForce yX11_inForce ∈ xtb := in_priv (i := 13) (by decide +kernel) rfl
theorem w_540 : Cond.code yX11_ruleInForce cX11_ruleInForce 8 (some .int) ∈ xtb := in_xtb (i := 540) (by decide +kernel) rfl
theorem cb_X11_ruleInForce : xCb yX11_ruleInForce cX11_ruleInForce 8 (some .int) 3 := ⟨w_1, w_540, by decide, by decide, by decide +kernel⟩
theorem w_537 : Cond.methodLink RX11 233 yX11_ruleInForce ∈ xtb := in_xtb (i := 537) (by decide +kernel) rfl
theorem w_539 : Cond.instanceMethod yX11_ruleInForce ∈ xtb := in_xtb (i := 539) (by decide +kernel) rfl
theorem v_14 : Cond.selects yX11_ruleInForce.cls yX11_ruleInForce yX11_ruleInForce ∈ xtb := in_priv (i := 14) (by decide +kernel) rfl
theorem w_541 : Cond.classLink RX11 219 RX9 ∈ xtb := in_xtb (i := 541) (by decide +kernel) rfl
theorem w_595 : Cond.fieldLink RX11 223 "ReadersRoom$Rule" "numbers" "[I" ∈ xtb := in_xtb (i := 595) (by decide +kernel) rfl
theorem lk_X11_223 {y : MethodName} (hy : y.cls = RX11) : xLk y 223 11 2 := ⟨xc11, by decide, "ReadersRoom$Rule", (by rw [hy]; exact w_595), Or.inl rfl⟩
theorem w_593 : Cond.fieldLink RX11 236 "ReadersRoom$Rule" "from" "I" ∈ xtb := in_xtb (i := 593) (by decide +kernel) rfl
theorem lk_X11_236 {y : MethodName} (hy : y.cls = RX11) : xLk y 236 11 1 := ⟨xc11, by decide, "ReadersRoom$Rule", (by rw [hy]; exact w_593), Or.inl rfl⟩
theorem w_18 : Cond.initialized yX9_tellsFrom.cls ∈ xtb := in_xtb (i := 18) (by decide +kernel) rfl
theorem w_545 : Cond.code yX9_tellsFrom cX9_tellsFrom 4 (some .boolean) ∈ xtb := in_xtb (i := 545) (by decide +kernel) rfl
theorem cb_X9_tellsFrom : xCb yX9_tellsFrom cX9_tellsFrom 4 (some .boolean) 3 := ⟨w_18, w_545, by decide, by decide, by decide +kernel⟩
theorem w_542 : Cond.methodLink RX11 239 yX9_tellsFrom ∈ xtb := in_xtb (i := 542) (by decide +kernel) rfl
theorem w_543 : Cond.instanceMethod yX9_tellsFrom ∈ xtb := in_xtb (i := 543) (by decide +kernel) rfl
theorem w_544 : Cond.selects yX9_tellsFrom.cls yX9_tellsFrom yX9_tellsFrom ∈ xtb := in_xtb (i := 544) (by decide +kernel) rfl
theorem w_592 : Cond.fieldLink RX9 17 "ReadersRoom$Rule" "from" "I" ∈ xtb := in_xtb (i := 592) (by decide +kernel) rfl
theorem lk_X9_17 {y : MethodName} (hy : y.cls = RX9) : xLk y 17 11 1 := ⟨xc11, by decide, "ReadersRoom$Rule", (by rw [hy]; exact w_592), Or.inl rfl⟩
theorem w_590 : Cond.fieldLink RX9 13 "ReadersRoom$Rule" "toldOn" "I" ∈ xtb := in_xtb (i := 590) (by decide +kernel) rfl
theorem lk_X9_13 {y : MethodName} (hy : y.cls = RX9) : xLk y 13 11 0 := ⟨xc11, by decide, "ReadersRoom$Rule", (by rw [hy]; exact w_590), Or.inl rfl⟩
theorem w_594 : Cond.fieldLink RX9 7 "ReadersRoom$Rule" "numbers" "[I" ∈ xtb := in_xtb (i := 594) (by decide +kernel) rfl
theorem lk_X9_7 {y : MethodName} (hy : y.cls = RX9) : xLk y 7 11 2 := ⟨xc11, by decide, "ReadersRoom$Rule", (by rw [hy]; exact w_594), Or.inl rfl⟩
theorem w_451 : Cond.fieldLink RX11 206 "ReadersRoom$Book" "shelf" "I" ∈ xtb := in_xtb (i := 451) (by decide +kernel) rfl
theorem lk_X11_206 {y : MethodName} (hy : y.cls = RX11) : xLk y 206 2 2 := ⟨xc2, by decide, "ReadersRoom$Book", (by rw [hy]; exact w_451), Or.inl rfl⟩
theorem w_568 : Cond.code yX11_readItems cX11_readItems 6 (some .int) ∈ xtb := in_xtb (i := 568) (by decide +kernel) rfl
theorem cb_X11_readItems : xCb yX11_readItems cX11_readItems 6 (some .int) 2 := ⟨w_1, w_568, by decide, by decide, by decide +kernel⟩
theorem w_567 : Cond.static yX11_readItems ∈ xtb := in_xtb (i := 567) (by decide +kernel) rfl
theorem w_566 : Cond.methodLink RX11 212 yX11_readItems ∈ xtb := in_xtb (i := 566) (by decide +kernel) rfl
theorem w_571 : Cond.code yX11_letterOf cX11_letterOf 1 (some .int) ∈ xtb := in_xtb (i := 571) (by decide +kernel) rfl
theorem cb_X11_letterOf : xCb yX11_letterOf cX11_letterOf 1 (some .int) 1 := ⟨w_1, w_571, by decide, by decide, by decide +kernel⟩
theorem w_570 : Cond.static yX11_letterOf ∈ xtb := in_xtb (i := 570) (by decide +kernel) rfl
theorem w_569 : Cond.methodLink RX11 501 yX11_letterOf ∈ xtb := in_xtb (i := 569) (by decide +kernel) rfl
theorem w_574 : Cond.code yX11_hasFigure cX11_hasFigure 2 (some .boolean) ∈ xtb := in_xtb (i := 574) (by decide +kernel) rfl
theorem cb_X11_hasFigure : xCb yX11_hasFigure cX11_hasFigure 2 (some .boolean) 2 := ⟨w_1, w_574, by decide, by decide, by decide +kernel⟩
theorem w_573 : Cond.static yX11_hasFigure ∈ xtb := in_xtb (i := 573) (by decide +kernel) rfl
theorem w_572 : Cond.methodLink RX11 493 yX11_hasFigure ∈ xtb := in_xtb (i := 572) (by decide +kernel) rfl
theorem w_577 : Cond.code yX11_numberAt cX11_numberAt 5 (some .int) ∈ xtb := in_xtb (i := 577) (by decide +kernel) rfl
theorem cb_X11_numberAt : xCb yX11_numberAt cX11_numberAt 5 (some .int) 3 := ⟨w_1, w_577, by decide, by decide, by decide +kernel⟩
theorem w_576 : Cond.static yX11_numberAt ∈ xtb := in_xtb (i := 576) (by decide +kernel) rfl
theorem w_575 : Cond.methodLink RX11 497 yX11_numberAt ∈ xtb := in_xtb (i := 575) (by decide +kernel) rfl
theorem w_584 : Cond.code yX11_isDay cX11_isDay 1 (some .boolean) ∈ xtb := in_xtb (i := 584) (by decide +kernel) rfl
theorem cb_X11_isDay : xCb yX11_isDay cX11_isDay 1 (some .boolean) 1 := ⟨w_1, w_584, by decide, by decide, by decide +kernel⟩
theorem w_583 : Cond.static yX11_isDay ∈ xtb := in_xtb (i := 583) (by decide +kernel) rfl
theorem w_582 : Cond.methodLink RX11 216 yX11_isDay ∈ xtb := in_xtb (i := 582) (by decide +kernel) rfl
theorem w_588 : Cond.code yX9_init cX9_init 3 (none) ∈ xtb := in_xtb (i := 588) (by decide +kernel) rfl
theorem cb_X9_init : xCb yX9_init cX9_init 3 (none) 2 := ⟨w_18, w_588, by decide, by decide, by decide +kernel⟩
theorem w_586 : Cond.methodLink RX11 221 yX9_init ∈ xtb := in_xtb (i := 586) (by decide +kernel) rfl
theorem w_587 : Cond.instanceMethod yX9_init ∈ xtb := in_xtb (i := 587) (by decide +kernel) rfl
theorem w_589 : Cond.methodLink RX9 1 Lib.objectInit ∈ xtb := in_xtb (i := 589) (by decide +kernel) rfl
theorem w_609 : Cond.code yX11_isLetter cX11_isLetter 1 (some .boolean) ∈ xtb := in_xtb (i := 609) (by decide +kernel) rfl
theorem cb_X11_isLetter : xCb yX11_isLetter cX11_isLetter 1 (some .boolean) 1 := ⟨w_1, w_609, by decide, by decide, by decide +kernel⟩
theorem w_608 : Cond.static yX11_isLetter ∈ xtb := in_xtb (i := 608) (by decide +kernel) rfl
theorem w_607 : Cond.methodLink RX11 226 yX11_isLetter ∈ xtb := in_xtb (i := 607) (by decide +kernel) rfl
theorem w_621 : Cond.code yX11_unlikeBehind cX11_unlikeBehind 7 (some .int) ∈ xtb := in_xtb (i := 621) (by decide +kernel) rfl
theorem cb_X11_unlikeBehind : xCb yX11_unlikeBehind cX11_unlikeBehind 7 (some .int) 4 := ⟨w_1, w_621, by decide, by decide, by decide +kernel⟩
theorem w_618 : Cond.methodLink RX11 243 yX11_unlikeBehind ∈ xtb := in_xtb (i := 618) (by decide +kernel) rfl
theorem w_620 : Cond.instanceMethod yX11_unlikeBehind ∈ xtb := in_xtb (i := 620) (by decide +kernel) rfl
theorem v_15 : Cond.selects yX11_unlikeBehind.cls yX11_unlikeBehind yX11_unlikeBehind ∈ xtb := in_priv (i := 15) (by decide +kernel) rfl
theorem w_628 : Cond.code yX11_readMark cX11_readMark 3 (some .int) ∈ xtb := in_xtb (i := 628) (by decide +kernel) rfl
theorem cb_X11_readMark : xCb yX11_readMark cX11_readMark 3 (some .int) 2 := ⟨w_1, w_628, by decide, by decide, by decide +kernel⟩
theorem w_627 : Cond.static yX11_readMark ∈ xtb := in_xtb (i := 627) (by decide +kernel) rfl
theorem w_626 : Cond.methodLink RX11 247 yX11_readMark ∈ xtb := in_xtb (i := 626) (by decide +kernel) rfl
theorem w_632 : Cond.code yX11_loadOf cX11_loadOf 5 (some .int) ∈ xtb := in_xtb (i := 632) (by decide +kernel) rfl
theorem cb_X11_loadOf : xCb yX11_loadOf cX11_loadOf 5 (some .int) 1 := ⟨w_1, w_632, by decide, by decide, by decide +kernel⟩
theorem w_629 : Cond.methodLink RX11 251 yX11_loadOf ∈ xtb := in_xtb (i := 629) (by decide +kernel) rfl
theorem w_631 : Cond.instanceMethod yX11_loadOf ∈ xtb := in_xtb (i := 631) (by decide +kernel) rfl
theorem v_16 : Cond.selects yX11_loadOf.cls yX11_loadOf yX11_loadOf ∈ xtb := in_priv (i := 16) (by decide +kernel) rfl
theorem w_637 : Cond.code yX11_isForbidden cX11_isForbidden 2 (some .boolean) ∈ xtb := in_xtb (i := 637) (by decide +kernel) rfl
theorem cb_X11_isForbidden : xCb yX11_isForbidden cX11_isForbidden 2 (some .boolean) 1 := ⟨w_1, w_637, by decide, by decide, by decide +kernel⟩
theorem w_634 : Cond.methodLink RX11 254 yX11_isForbidden ∈ xtb := in_xtb (i := 634) (by decide +kernel) rfl
theorem w_636 : Cond.instanceMethod yX11_isForbidden ∈ xtb := in_xtb (i := 636) (by decide +kernel) rfl
theorem v_17 : Cond.selects yX11_isForbidden.cls yX11_isForbidden yX11_isForbidden ∈ xtb := in_priv (i := 17) (by decide +kernel) rfl
theorem w_646 : Cond.code yX10_init cX10_init 5 (none) ∈ xtb := in_xtb (i := 646) (by decide +kernel) rfl
theorem cb_X10_init : xCb yX10_init cX10_init 5 (none) 4 := ⟨w_19, w_646, by decide, by decide, by decide +kernel⟩
theorem w_644 : Cond.methodLink RX11 260 yX10_init ∈ xtb := in_xtb (i := 644) (by decide +kernel) rfl
theorem w_633 : Cond.classLink RX11 258 RX10 ∈ xtb := in_xtb (i := 633) (by decide +kernel) rfl
theorem w_645 : Cond.instanceMethod yX10_init ∈ xtb := in_xtb (i := 645) (by decide +kernel) rfl
theorem w_457 : Cond.fieldLink RX11 263 "ReadersRoom$Book" "believed" "I" ∈ xtb := in_xtb (i := 457) (by decide +kernel) rfl
theorem lk_X11_263 {y : MethodName} (hy : y.cls = RX11) : xLk y 263 2 5 := ⟨xc2, by decide, "ReadersRoom$Book", (by rw [hy]; exact w_457), Or.inl rfl⟩
theorem w_453 : Cond.fieldLink RX11 504 "ReadersRoom$Book" "rare" "Z" ∈ xtb := in_xtb (i := 453) (by decide +kernel) rfl
theorem lk_X11_504 {y : MethodName} (hy : y.cls = RX11) : xLk y 504 2 3 := ⟨xc2, by decide, "ReadersRoom$Book", (by rw [hy]; exact w_453), Or.inl rfl⟩
theorem w_641 : Cond.code yX11_eyesAt cX11_eyesAt 4 (some .int) ∈ xtb := in_xtb (i := 641) (by decide +kernel) rfl
theorem cb_X11_eyesAt : xCb yX11_eyesAt cX11_eyesAt 4 (some .int) 1 := ⟨w_1, w_641, by decide, by decide, by decide +kernel⟩
theorem w_638 : Cond.methodLink RX11 425 yX11_eyesAt ∈ xtb := in_xtb (i := 638) (by decide +kernel) rfl
theorem w_640 : Cond.instanceMethod yX11_eyesAt ∈ xtb := in_xtb (i := 640) (by decide +kernel) rfl
theorem v_18 : Cond.selects yX11_eyesAt.cls yX11_eyesAt yX11_eyesAt ∈ xtb := in_priv (i := 18) (by decide +kernel) rfl
theorem w_642 : Cond.classLink RX11 422 RX2 ∈ xtb := in_xtb (i := 642) (by decide +kernel) rfl
theorem w_1009 : Cond.fieldLink RX11 471 "ReadersRoom$Eye" "from" "I" ∈ xtb := in_xtb (i := 1009) (by decide +kernel) rfl
theorem lk_X11_471 {y : MethodName} (hy : y.cls = RX11) : xLk y 471 4 0 := ⟨xc4, by decide, "ReadersRoom$Eye", (by rw [hy]; exact w_1009), Or.inl rfl⟩
theorem w_1011 : Cond.fieldLink RX11 472 "ReadersRoom$Eye" "till" "I" ∈ xtb := in_xtb (i := 1011) (by decide +kernel) rfl
theorem lk_X11_472 {y : MethodName} (hy : y.cls = RX11) : xLk y 472 4 1 := ⟨xc4, by decide, "ReadersRoom$Eye", (by rw [hy]; exact w_1011), Or.inl rfl⟩
theorem w_657 : Cond.fieldLink RX11 288 "ReadersRoom$Slip" "how" "I" ∈ xtb := in_xtb (i := 657) (by decide +kernel) rfl
theorem lk_X11_288 {y : MethodName} (hy : y.cls = RX11) : xLk y 288 12 4 := ⟨xc12, by decide, "ReadersRoom$Slip", (by rw [hy]; exact w_657), Or.inl rfl⟩
theorem w_647 : Cond.methodLink RX10 3 Lib.objectInit ∈ xtb := in_xtb (i := 647) (by decide +kernel) rfl
theorem w_648 : Cond.fieldLink RX10 18 "ReadersRoom$Slip" "reader" "I" ∈ xtb := in_xtb (i := 648) (by decide +kernel) rfl
theorem lk_X10_18 {y : MethodName} (hy : y.cls = RX10) : xLk y 18 12 0 := ⟨xc12, by decide, "ReadersRoom$Slip", (by rw [hy]; exact w_648), Or.inl rfl⟩
theorem w_650 : Cond.fieldLink RX10 21 "ReadersRoom$Slip" "book" "LReadersRoom$Book;" ∈ xtb := in_xtb (i := 650) (by decide +kernel) rfl
theorem lk_X10_21 {y : MethodName} (hy : y.cls = RX10) : xLk y 21 12 1 := ⟨xc12, by decide, "ReadersRoom$Slip", (by rw [hy]; exact w_650), Or.inl rfl⟩
theorem w_652 : Cond.fieldLink RX10 25 "ReadersRoom$Slip" "toldAt" "I" ∈ xtb := in_xtb (i := 652) (by decide +kernel) rfl
theorem lk_X10_25 {y : MethodName} (hy : y.cls = RX10) : xLk y 25 12 2 := ⟨xc12, by decide, "ReadersRoom$Slip", (by rw [hy]; exact w_652), Or.inl rfl⟩
theorem w_654 : Cond.fieldLink RX10 28 "ReadersRoom$Slip" "load" "I" ∈ xtb := in_xtb (i := 654) (by decide +kernel) rfl
theorem lk_X10_28 {y : MethodName} (hy : y.cls = RX10) : xLk y 28 12 3 := ⟨xc12, by decide, "ReadersRoom$Slip", (by rw [hy]; exact w_654), Or.inl rfl⟩
theorem w_679 : Cond.code yX11_slipAt cX11_slipAt 2 (some (.object "ReadersRoom$Slip")) ∈ xtb := in_xtb (i := 679) (by decide +kernel) rfl
theorem cb_X11_slipAt : xCb yX11_slipAt cX11_slipAt 2 (some (.object "ReadersRoom$Slip")) 1 := ⟨w_1, w_679, by decide, by decide, by decide +kernel⟩
theorem w_676 : Cond.methodLink RX11 269 yX11_slipAt ∈ xtb := in_xtb (i := 676) (by decide +kernel) rfl
theorem w_678 : Cond.instanceMethod yX11_slipAt ∈ xtb := in_xtb (i := 678) (by decide +kernel) rfl
theorem v_19 : Cond.selects yX11_slipAt.cls yX11_slipAt yX11_slipAt ∈ xtb := in_priv (i := 19) (by decide +kernel) rfl
theorem w_683 : Cond.code yX10_tells cX10_tells 2 (some .int) ∈ xtb := in_xtb (i := 683) (by decide +kernel) rfl
theorem cb_X10_tells : xCb yX10_tells cX10_tells 2 (some .int) 1 := ⟨w_19, w_683, by decide, by decide, by decide +kernel⟩
theorem w_680 : Cond.methodLink RX11 273 yX10_tells ∈ xtb := in_xtb (i := 680) (by decide +kernel) rfl
theorem w_681 : Cond.instanceMethod yX10_tells ∈ xtb := in_xtb (i := 681) (by decide +kernel) rfl
theorem w_682 : Cond.selects yX10_tells.cls yX10_tells yX10_tells ∈ xtb := in_xtb (i := 682) (by decide +kernel) rfl
theorem w_446 : Cond.fieldLink RX10 31 "ReadersRoom$Book" "number" "I" ∈ xtb := in_xtb (i := 446) (by decide +kernel) rfl
theorem lk_X10_31 {y : MethodName} (hy : y.cls = RX10) : xLk y 31 2 0 := ⟨xc2, by decide, "ReadersRoom$Book", (by rw [hy]; exact w_446), Or.inl rfl⟩
theorem w_690 : Cond.code yX11_isFetcher cX11_isFetcher 1 (some .boolean) ∈ xtb := in_xtb (i := 690) (by decide +kernel) rfl
theorem cb_X11_isFetcher : xCb yX11_isFetcher cX11_isFetcher 1 (some .boolean) 1 := ⟨w_1, w_690, by decide, by decide, by decide +kernel⟩
theorem w_689 : Cond.static yX11_isFetcher ∈ xtb := in_xtb (i := 689) (by decide +kernel) rfl
theorem w_688 : Cond.methodLink RX11 274 yX11_isFetcher ∈ xtb := in_xtb (i := 688) (by decide +kernel) rfl
theorem w_705 : Cond.code yX11_minutesToBring cX11_minutesToBring 2 (some .int) ∈ xtb := in_xtb (i := 705) (by decide +kernel) rfl
theorem cb_X11_minutesToBring : xCb yX11_minutesToBring cX11_minutesToBring 2 (some .int) 2 := ⟨w_1, w_705, by decide, by decide, by decide +kernel⟩
theorem w_702 : Cond.code yX0_floor cX0_floor 1 (some .int) ∈ xtb := in_xtb (i := 702) (by decide +kernel) rfl
theorem cb_X0_floor : xCb yX0_floor cX0_floor 1 (some .int) 0 := ⟨w_17, w_702, by decide, by decide, by decide +kernel⟩
theorem w_651 : Cond.fieldLink RX11 277 "ReadersRoom$Slip" "book" "LReadersRoom$Book;" ∈ xtb := in_xtb (i := 651) (by decide +kernel) rfl
theorem lk_X11_277 {y : MethodName} (hy : y.cls = RX11) : xLk y 277 12 1 := ⟨xc12, by decide, "ReadersRoom$Slip", (by rw [hy]; exact w_651), Or.inl rfl⟩
theorem w_699 : Cond.methodLink RX11 281 yX0_floor ∈ xtb := in_xtb (i := 699) (by decide +kernel) rfl
theorem w_700 : Cond.instanceMethod yX0_floor ∈ xtb := in_xtb (i := 700) (by decide +kernel) rfl
theorem w_701 : Cond.selects yX0_floor.cls yX0_floor yX0_floor ∈ xtb := in_xtb (i := 701) (by decide +kernel) rfl
theorem w_704 : Cond.static yX11_minutesToBring ∈ xtb := in_xtb (i := 704) (by decide +kernel) rfl
theorem w_703 : Cond.methodLink RX11 284 yX11_minutesToBring ∈ xtb := in_xtb (i := 703) (by decide +kernel) rfl
theorem w_713 : Cond.code yX11_tellLook cX11_tellLook 3 (none) ∈ xtb := in_xtb (i := 713) (by decide +kernel) rfl
theorem cb_X11_tellLook : xCb yX11_tellLook cX11_tellLook 3 (none) 2 := ⟨w_1, w_713, by decide, by decide, by decide +kernel⟩
theorem w_710 : Cond.methodLink RX11 298 yX11_tellLook ∈ xtb := in_xtb (i := 710) (by decide +kernel) rfl
theorem w_712 : Cond.instanceMethod yX11_tellLook ∈ xtb := in_xtb (i := 712) (by decide +kernel) rfl
theorem v_20 : Cond.selects yX11_tellLook.cls yX11_tellLook yX11_tellLook ∈ xtb := in_priv (i := 20) (by decide +kernel) rfl
theorem w_20 : Cond.initialized yX5_init.cls ∈ xtb := in_xtb (i := 20) (by decide +kernel) rfl
theorem w_718 : Cond.code yX5_init cX5_init 4 (none) ∈ xtb := in_xtb (i := 718) (by decide +kernel) rfl
theorem cb_X5_init : xCb yX5_init cX5_init 4 (none) 3 := ⟨w_20, w_718, by decide, by decide, by decide +kernel⟩
theorem w_716 : Cond.methodLink RX11 547 yX5_init ∈ xtb := in_xtb (i := 716) (by decide +kernel) rfl
theorem w_714 : Cond.classLink RX11 399 RX5 ∈ xtb := in_xtb (i := 714) (by decide +kernel) rfl
theorem w_717 : Cond.instanceMethod yX5_init ∈ xtb := in_xtb (i := 717) (by decide +kernel) rfl
theorem w_719 : Cond.methodLink RX5 1 Lib.objectInit ∈ xtb := in_xtb (i := 719) (by decide +kernel) rfl
theorem w_720 : Cond.fieldLink RX5 7 "ReadersRoom$Look" "book" "I" ∈ xtb := in_xtb (i := 720) (by decide +kernel) rfl
theorem lk_X5_7 {y : MethodName} (hy : y.cls = RX5) : xLk y 7 7 0 := ⟨xc7, by decide, "ReadersRoom$Look", (by rw [hy]; exact w_720), Or.inl rfl⟩
theorem w_722 : Cond.fieldLink RX5 13 "ReadersRoom$Look" "minute" "I" ∈ xtb := in_xtb (i := 722) (by decide +kernel) rfl
theorem lk_X5_13 {y : MethodName} (hy : y.cls = RX5) : xLk y 13 7 1 := ⟨xc7, by decide, "ReadersRoom$Look", (by rw [hy]; exact w_722), Or.inl rfl⟩
theorem w_724 : Cond.fieldLink RX5 16 "ReadersRoom$Look" "present" "I" ∈ xtb := in_xtb (i := 724) (by decide +kernel) rfl
theorem lk_X5_16 {y : MethodName} (hy : y.cls = RX5) : xLk y 16 7 2 := ⟨xc7, by decide, "ReadersRoom$Look", (by rw [hy]; exact w_724), Or.inl rfl⟩
theorem w_740 : Cond.code yX11_gatherRounds cX11_gatherRounds 2 (none) ∈ xtb := in_xtb (i := 740) (by decide +kernel) rfl
theorem cb_X11_gatherRounds : xCb yX11_gatherRounds cX11_gatherRounds 2 (none) 0 := ⟨w_1, w_740, by decide, by decide, by decide +kernel⟩
theorem w_737 : Cond.methodLink RX11 302 yX11_gatherRounds ∈ xtb := in_xtb (i := 737) (by decide +kernel) rfl
theorem w_739 : Cond.instanceMethod yX11_gatherRounds ∈ xtb := in_xtb (i := 739) (by decide +kernel) rfl
theorem v_21 : Cond.selects yX11_gatherRounds.cls yX11_gatherRounds yX11_gatherRounds ∈ xtb := in_priv (i := 21) (by decide +kernel) rfl
theorem w_753 : Cond.code yX7_foretold cX7_foretold 6 (some .int) ∈ xtb := in_xtb (i := 753) (by decide +kernel) rfl
theorem cb_X7_foretold : xCb yX7_foretold cX7_foretold 6 (some .int) 1 := ⟨w_6, w_753, by decide, by decide, by decide +kernel⟩
theorem w_749 : Cond.code yX11_waitingAheadOf cX11_waitingAheadOf 4 (some .int) ∈ xtb := in_xtb (i := 749) (by decide +kernel) rfl
theorem cb_X11_waitingAheadOf : xCb yX11_waitingAheadOf cX11_waitingAheadOf 4 (some .int) 1 := ⟨w_1, w_749, by decide, by decide, by decide +kernel⟩
theorem w_746 : Cond.methodLink RX11 305 yX11_waitingAheadOf ∈ xtb := in_xtb (i := 746) (by decide +kernel) rfl
theorem w_748 : Cond.instanceMethod yX11_waitingAheadOf ∈ xtb := in_xtb (i := 748) (by decide +kernel) rfl
theorem v_22 : Cond.selects yX11_waitingAheadOf.cls yX11_waitingAheadOf yX11_waitingAheadOf ∈ xtb := in_priv (i := 22) (by decide +kernel) rfl
theorem w_750 : Cond.methodLink RX11 308 yX7_foretold ∈ xtb := in_xtb (i := 750) (by decide +kernel) rfl
theorem w_751 : Cond.instanceMethod yX7_foretold ∈ xtb := in_xtb (i := 751) (by decide +kernel) rfl
theorem w_752 : Cond.selects yX7_foretold.cls yX7_foretold yX7_foretold ∈ xtb := in_xtb (i := 752) (by decide +kernel) rfl
theorem w_98 : Cond.fieldLink RX11 311 "ReadersRoom$Rounds" "many" "I" ∈ xtb := in_xtb (i := 98) (by decide +kernel) rfl
theorem lk_X11_311 {y : MethodName} (hy : y.cls = RX11) : xLk y 311 9 3 := ⟨xc9, by decide, "ReadersRoom$Rounds", (by rw [hy]; exact w_98), Or.inl rfl⟩
theorem w_92 : Cond.fieldLink RX11 508 "ReadersRoom$Rounds" "paces" "[I" ∈ xtb := in_xtb (i := 92) (by decide +kernel) rfl
theorem lk_X11_508 {y : MethodName} (hy : y.cls = RX11) : xLk y 508 9 0 := ⟨xc9, by decide, "ReadersRoom$Rounds", (by rw [hy]; exact w_92), Or.inl rfl⟩
theorem w_94 : Cond.fieldLink RX11 509 "ReadersRoom$Rounds" "starts" "[I" ∈ xtb := in_xtb (i := 94) (by decide +kernel) rfl
theorem lk_X11_509 {y : MethodName} (hy : y.cls = RX11) : xLk y 509 9 1 := ⟨xc9, by decide, "ReadersRoom$Rounds", (by rw [hy]; exact w_94), Or.inl rfl⟩
theorem w_741 : Cond.methodLink RX11 512 Lib.Math.max.name ∈ xtb := in_xtb (i := 741) (by decide +kernel) rfl
theorem w_745 : Cond.code yX7_queue cX7_queue 3 (none) ∈ xtb := in_xtb (i := 745) (by decide +kernel) rfl
theorem cb_X7_queue : xCb yX7_queue cX7_queue 3 (none) 1 := ⟨w_6, w_745, by decide, by decide, by decide +kernel⟩
theorem w_742 : Cond.methodLink RX11 515 yX7_queue ∈ xtb := in_xtb (i := 742) (by decide +kernel) rfl
theorem w_743 : Cond.instanceMethod yX7_queue ∈ xtb := in_xtb (i := 743) (by decide +kernel) rfl
theorem w_744 : Cond.selects yX7_queue.cls yX7_queue yX7_queue ∈ xtb := in_xtb (i := 744) (by decide +kernel) rfl
theorem w_757 : Cond.code yX7_begin cX7_begin 2 (none) ∈ xtb := in_xtb (i := 757) (by decide +kernel) rfl
theorem cb_X7_begin : xCb yX7_begin cX7_begin 2 (none) 0 := ⟨w_6, w_757, by decide, by decide, by decide +kernel⟩
theorem w_754 : Cond.methodLink RX7 44 yX7_begin ∈ xtb := in_xtb (i := 754) (by decide +kernel) rfl
theorem w_756 : Cond.instanceMethod yX7_begin ∈ xtb := in_xtb (i := 756) (by decide +kernel) rfl
theorem v_23 : Cond.selects yX7_begin.cls yX7_begin yX7_begin ∈ xtb := in_priv (i := 23) (by decide +kernel) rfl
theorem w_761 : Cond.code yX7_endOf cX7_endOf 3 (some .int) ∈ xtb := in_xtb (i := 761) (by decide +kernel) rfl
theorem cb_X7_endOf : xCb yX7_endOf cX7_endOf 3 (some .int) 2 := ⟨w_6, w_761, by decide, by decide, by decide +kernel⟩
theorem w_758 : Cond.methodLink RX7 47 yX7_endOf ∈ xtb := in_xtb (i := 758) (by decide +kernel) rfl
theorem w_760 : Cond.instanceMethod yX7_endOf ∈ xtb := in_xtb (i := 760) (by decide +kernel) rfl
theorem v_24 : Cond.selects yX7_endOf.cls yX7_endOf yX7_endOf ∈ xtb := in_priv (i := 24) (by decide +kernel) rfl
theorem w_762 : Cond.methodLinkNest RX7 40 yX11_minutesToBring "ReadersRoom" ∈ xrs := in_xrs (i := 762) (by decide +kernel) rfl
theorem w_770 : Cond.code yX7_workOut cX7_workOut 1 (none) ∈ xtb := in_xtb (i := 770) (by decide +kernel) rfl
theorem cb_X7_workOut : xCb yX7_workOut cX7_workOut 1 (none) 0 := ⟨w_6, w_770, by decide, by decide, by decide +kernel⟩
theorem w_767 : Cond.methodLink RX11 314 yX7_workOut ∈ xtb := in_xtb (i := 767) (by decide +kernel) rfl
theorem w_768 : Cond.instanceMethod yX7_workOut ∈ xtb := in_xtb (i := 768) (by decide +kernel) rfl
theorem w_769 : Cond.selects yX7_workOut.cls yX7_workOut yX7_workOut ∈ xtb := in_xtb (i := 769) (by decide +kernel) rfl
theorem w_100 : Cond.fieldLink RX11 317 "ReadersRoom$Rounds" "least" "I" ∈ xtb := in_xtb (i := 100) (by decide +kernel) rfl
theorem lk_X11_317 {y : MethodName} (hy : y.cls = RX11) : xLk y 317 9 4 := ⟨xc9, by decide, "ReadersRoom$Rounds", (by rw [hy]; exact w_100), Or.inl rfl⟩
theorem w_771 : Cond.constant RX7 54 1000000 ∈ xtb := in_xtb (i := 771) (by decide +kernel) rfl
theorem w_775 : Cond.code yX7_give cX7_give 6 (none) ∈ xtb := in_xtb (i := 775) (by decide +kernel) rfl
theorem cb_X7_give : xCb yX7_give cX7_give 6 (none) 2 := ⟨w_6, w_775, by decide, by decide, by decide +kernel⟩
theorem w_772 : Cond.methodLink RX7 55 yX7_give ∈ xtb := in_xtb (i := 772) (by decide +kernel) rfl
theorem w_774 : Cond.instanceMethod yX7_give ∈ xtb := in_xtb (i := 774) (by decide +kernel) rfl
theorem v_25 : Cond.selects yX7_give.cls yX7_give yX7_give ∈ xtb := in_priv (i := 25) (by decide +kernel) rfl
theorem w_779 : Cond.code yX7_settle cX7_settle 2 (none) ∈ xtb := in_xtb (i := 779) (by decide +kernel) rfl
theorem cb_X7_settle : xCb yX7_settle cX7_settle 2 (none) 1 := ⟨w_6, w_779, by decide, by decide, by decide +kernel⟩
theorem w_776 : Cond.methodLink RX7 59 yX7_settle ∈ xtb := in_xtb (i := 776) (by decide +kernel) rfl
theorem w_778 : Cond.instanceMethod yX7_settle ∈ xtb := in_xtb (i := 778) (by decide +kernel) rfl
theorem v_26 : Cond.selects yX7_settle.cls yX7_settle yX7_settle ∈ xtb := in_priv (i := 26) (by decide +kernel) rfl
theorem w_783 : Cond.code yX7_isAheadOfBest cX7_isAheadOfBest 2 (some .boolean) ∈ xtb := in_xtb (i := 783) (by decide +kernel) rfl
theorem cb_X7_isAheadOfBest : xCb yX7_isAheadOfBest cX7_isAheadOfBest 2 (some .boolean) 0 := ⟨w_6, w_783, by decide, by decide, by decide +kernel⟩
theorem w_780 : Cond.methodLink RX7 63 yX7_isAheadOfBest ∈ xtb := in_xtb (i := 780) (by decide +kernel) rfl
theorem w_782 : Cond.instanceMethod yX7_isAheadOfBest ∈ xtb := in_xtb (i := 782) (by decide +kernel) rfl
theorem v_27 : Cond.selects yX7_isAheadOfBest.cls yX7_isAheadOfBest yX7_isAheadOfBest ∈ xtb := in_priv (i := 27) (by decide +kernel) rfl
theorem w_784 : Cond.methodLink RX7 67 arraycopyName ∈ xtb := in_xtb (i := 784) (by decide +kernel) rfl
theorem w_96 : Cond.fieldLink RX11 320 "ReadersRoom$Rounds" "best" "[I" ∈ xtb := in_xtb (i := 96) (by decide +kernel) rfl
theorem lk_X11_320 {y : MethodName} (hy : y.cls = RX11) : xLk y 320 9 2 := ⟨xc9, by decide, "ReadersRoom$Rounds", (by rw [hy]; exact w_96), Or.inl rfl⟩
theorem w_796 : Cond.code yX8_isWithin cX8_isWithin 4 (some .boolean) ∈ xtb := in_xtb (i := 796) (by decide +kernel) rfl
theorem cb_X8_isWithin : xCb yX8_isWithin cX8_isWithin 4 (some .boolean) 2 := ⟨w_8, w_796, by decide, by decide, by decide +kernel⟩
theorem w_793 : Cond.methodLink RX11 323 yX8_isWithin ∈ xtb := in_xtb (i := 793) (by decide +kernel) rfl
theorem w_794 : Cond.instanceMethod yX8_isWithin ∈ xtb := in_xtb (i := 794) (by decide +kernel) rfl
theorem w_795 : Cond.selects yX8_isWithin.cls yX8_isWithin yX8_isWithin ∈ xtb := in_xtb (i := 795) (by decide +kernel) rfl
theorem w_800 : Cond.code yX7_sumOf cX7_sumOf 6 (some .int) ∈ xtb := in_xtb (i := 800) (by decide +kernel) rfl
theorem cb_X7_sumOf : xCb yX7_sumOf cX7_sumOf 6 (some .int) 1 := ⟨w_6, w_800, by decide, by decide, by decide +kernel⟩
theorem w_797 : Cond.methodLink RX11 326 yX7_sumOf ∈ xtb := in_xtb (i := 797) (by decide +kernel) rfl
theorem w_798 : Cond.instanceMethod yX7_sumOf ∈ xtb := in_xtb (i := 798) (by decide +kernel) rfl
theorem w_799 : Cond.selects yX7_sumOf.cls yX7_sumOf yX7_sumOf ∈ xtb := in_xtb (i := 799) (by decide +kernel) rfl
theorem w_801 : Cond.methodLinkNest RX7 50 yX11_isFetcher "ReadersRoom" ∈ xrs := in_xrs (i := 801) (by decide +kernel) rfl
theorem w_806 : Cond.methodLink RX11 330 Lib.Math.min.name ∈ xtb := in_xtb (i := 806) (by decide +kernel) rfl
theorem w_810 : Cond.code yX11_rankOf cX11_rankOf 3 (some .int) ∈ xtb := in_xtb (i := 810) (by decide +kernel) rfl
theorem cb_X11_rankOf : xCb yX11_rankOf cX11_rankOf 3 (some .int) 2 := ⟨w_1, w_810, by decide, by decide, by decide +kernel⟩
theorem w_807 : Cond.methodLink RX11 338 yX11_rankOf ∈ xtb := in_xtb (i := 807) (by decide +kernel) rfl
theorem w_809 : Cond.instanceMethod yX11_rankOf ∈ xtb := in_xtb (i := 809) (by decide +kernel) rfl
theorem v_28 : Cond.selects yX11_rankOf.cls yX11_rankOf yX11_rankOf ∈ xtb := in_priv (i := 28) (by decide +kernel) rfl
theorem w_655 : Cond.fieldLink RX11 342 "ReadersRoom$Slip" "load" "I" ∈ xtb := in_xtb (i := 655) (by decide +kernel) rfl
theorem lk_X11_342 {y : MethodName} (hy : y.cls = RX11) : xLk y 342 12 3 := ⟨xc12, by decide, "ReadersRoom$Slip", (by rw [hy]; exact w_655), Or.inl rfl⟩
theorem w_653 : Cond.fieldLink RX11 345 "ReadersRoom$Slip" "toldAt" "I" ∈ xtb := in_xtb (i := 653) (by decide +kernel) rfl
theorem lk_X11_345 {y : MethodName} (hy : y.cls = RX11) : xLk y 345 12 2 := ⟨xc12, by decide, "ReadersRoom$Slip", (by rw [hy]; exact w_653), Or.inl rfl⟩
theorem w_21 : Cond.initialized yJ6_bitCount_0f7a4.cls ∈ xtb := in_xtb (i := 21) (by decide +kernel) rfl
theorem w_821 : Cond.code yJ6_bitCount_0f7a4 cJ6_bitCount_0f7a4 1 (some .int) ∈ xtb := in_xtb (i := 821) (by decide +kernel) rfl
theorem cb_J6_bitCount_0f7a4 : xCb yJ6_bitCount_0f7a4 cJ6_bitCount_0f7a4 1 (some .int) 1 := ⟨w_21, w_821, by decide, by decide, by decide +kernel⟩
theorem w_820 : Cond.static yJ6_bitCount_0f7a4 ∈ xtb := in_xtb (i := 820) (by decide +kernel) rfl
theorem w_819 : Cond.methodLink RX11 349 yJ6_bitCount_0f7a4 ∈ xtb := in_xtb (i := 819) (by decide +kernel) rfl
theorem w_822 : Cond.constant RJ6 265 1431655765 ∈ xtb := in_xtb (i := 822) (by decide +kernel) rfl
theorem w_823 : Cond.constant RJ6 266 858993459 ∈ xtb := in_xtb (i := 823) (by decide +kernel) rfl
theorem w_824 : Cond.constant RJ6 267 252645135 ∈ xtb := in_xtb (i := 824) (by decide +kernel) rfl
theorem w_832 : Cond.code yX1_hasLine cX1_hasLine 2 (some .boolean) ∈ xtb := in_xtb (i := 832) (by decide +kernel) rfl
theorem cb_X1_hasLine : xCb yX1_hasLine cX1_hasLine 2 (some .boolean) 1 := ⟨w_5, w_832, by decide, by decide, by decide +kernel⟩
theorem w_829 : Cond.methodLink RX11 354 yX1_hasLine ∈ xtb := in_xtb (i := 829) (by decide +kernel) rfl
theorem w_830 : Cond.instanceMethod yX1_hasLine ∈ xtb := in_xtb (i := 830) (by decide +kernel) rfl
theorem w_831 : Cond.selects yX1_hasLine.cls yX1_hasLine yX1_hasLine ∈ xtb := in_xtb (i := 831) (by decide +kernel) rfl
theorem w_69 : Cond.fieldLink RX11 357 "ReadersRoom$Catalogue" "lines" "Ljava/util/ArrayList;" ∈ xtb := in_xtb (i := 69) (by decide +kernel) rfl
theorem lk_X11_357 {y : MethodName} (hy : y.cls = RX11) : xLk y 357 3 0 := ⟨xc3, by decide, "ReadersRoom$Catalogue", (by rw [hy]; exact w_69), Or.inl rfl⟩
theorem w_837 : Cond.code yX1_isPastedOver cX1_isPastedOver 2 (some .boolean) ∈ xtb := in_xtb (i := 837) (by decide +kernel) rfl
theorem cb_X1_isPastedOver : xCb yX1_isPastedOver cX1_isPastedOver 2 (some .boolean) 1 := ⟨w_5, w_837, by decide, by decide, by decide +kernel⟩
theorem w_834 : Cond.methodLink RX11 360 yX1_isPastedOver ∈ xtb := in_xtb (i := 834) (by decide +kernel) rfl
theorem w_835 : Cond.instanceMethod yX1_isPastedOver ∈ xtb := in_xtb (i := 835) (by decide +kernel) rfl
theorem w_836 : Cond.selects yX1_isPastedOver.cls yX1_isPastedOver yX1_isPastedOver ∈ xtb := in_xtb (i := 836) (by decide +kernel) rfl
theorem w_881 : Cond.code yX1_paste cX1_paste 2 (some .int) ∈ xtb := in_xtb (i := 881) (by decide +kernel) rfl
theorem cb_X1_paste : xCb yX1_paste cX1_paste 2 (some .int) 1 := ⟨w_5, w_881, by decide, by decide, by decide +kernel⟩
theorem w_22 : Cond.initialized yX4_init.cls ∈ xtb := in_xtb (i := 22) (by decide +kernel) rfl
theorem w_845 : Cond.code yX4_init cX4_init 7 (none) ∈ xtb := in_xtb (i := 845) (by decide +kernel) rfl
theorem cb_X4_init : xCb yX4_init cX4_init 7 (none) 6 := ⟨w_22, w_845, by decide, by decide, by decide +kernel⟩
theorem w_843 : Cond.methodLink RX11 365 yX4_init ∈ xtb := in_xtb (i := 843) (by decide +kernel) rfl
theorem w_841 : Cond.classLink RX11 363 RX4 ∈ xtb := in_xtb (i := 841) (by decide +kernel) rfl
theorem w_844 : Cond.instanceMethod yX4_init ∈ xtb := in_xtb (i := 844) (by decide +kernel) rfl
theorem w_878 : Cond.methodLink RX11 368 yX1_paste ∈ xtb := in_xtb (i := 878) (by decide +kernel) rfl
theorem w_879 : Cond.instanceMethod yX1_paste ∈ xtb := in_xtb (i := 879) (by decide +kernel) rfl
theorem w_880 : Cond.selects yX1_paste.cls yX1_paste yX1_paste ∈ xtb := in_xtb (i := 880) (by decide +kernel) rfl
theorem w_833 : Cond.methodLink RX1 29 yJx4a65c_size_8abf5 ∈ xtb := in_xtb (i := 833) (by decide +kernel) rfl
theorem w_838 : Cond.methodLink RX1 33 yX1_hasLine ∈ xtb := in_xtb (i := 838) (by decide +kernel) rfl
theorem w_839 : Cond.methodLink RX1 37 yJx4a65c_get_915e3 ∈ xtb := in_xtb (i := 839) (by decide +kernel) rfl
theorem w_840 : Cond.classLink RX1 41 RX4 ∈ xtb := in_xtb (i := 840) (by decide +kernel) rfl
theorem w_862 : Cond.fieldLink RX1 43 "ReadersRoom$Line" "pastedAt" "I" ∈ xtb := in_xtb (i := 862) (by decide +kernel) rfl
theorem lk_X1_43 {y : MethodName} (hy : y.cls = RX1) : xLk y 43 6 6 := ⟨xc6, by decide, "ReadersRoom$Line", (by rw [hy]; exact w_862), Or.inl rfl⟩
theorem w_857 : Cond.fieldLink RX1 46 "ReadersRoom$Line" "over" "I" ∈ xtb := in_xtb (i := 857) (by decide +kernel) rfl
theorem lk_X1_46 {y : MethodName} (hy : y.cls = RX1) : xLk y 46 6 4 := ⟨xc6, by decide, "ReadersRoom$Line", (by rw [hy]; exact w_857), Or.inl rfl⟩
theorem w_860 : Cond.fieldLink RX1 49 "ReadersRoom$Line" "toldAt" "I" ∈ xtb := in_xtb (i := 860) (by decide +kernel) rfl
theorem lk_X1_49 {y : MethodName} (hy : y.cls = RX1) : xLk y 49 6 5 := ⟨xc6, by decide, "ReadersRoom$Line", (by rw [hy]; exact w_860), Or.inl rfl⟩
theorem w_882 : Cond.methodLink RX1 52 yJx4a65c_add_9ea2d ∈ xtb := in_xtb (i := 882) (by decide +kernel) rfl
theorem w_846 : Cond.methodLink RX4 3 Lib.objectInit ∈ xtb := in_xtb (i := 846) (by decide +kernel) rfl
theorem w_861 : Cond.fieldLink RX4 9 "ReadersRoom$Line" "pastedAt" "I" ∈ xtb := in_xtb (i := 861) (by decide +kernel) rfl
theorem lk_X4_9 {y : MethodName} (hy : y.cls = RX4) : xLk y 9 6 6 := ⟨xc6, by decide, "ReadersRoom$Line", (by rw [hy]; exact w_861), Or.inl rfl⟩
theorem w_847 : Cond.fieldLink RX4 15 "ReadersRoom$Line" "age" "I" ∈ xtb := in_xtb (i := 847) (by decide +kernel) rfl
theorem lk_X4_15 {y : MethodName} (hy : y.cls = RX4) : xLk y 15 6 0 := ⟨xc6, by decide, "ReadersRoom$Line", (by rw [hy]; exact w_847), Or.inl rfl⟩
theorem w_849 : Cond.fieldLink RX4 18 "ReadersRoom$Line" "from" "I" ∈ xtb := in_xtb (i := 849) (by decide +kernel) rfl
theorem lk_X4_18 {y : MethodName} (hy : y.cls = RX4) : xLk y 18 6 1 := ⟨xc6, by decide, "ReadersRoom$Line", (by rw [hy]; exact w_849), Or.inl rfl⟩
theorem w_851 : Cond.fieldLink RX4 21 "ReadersRoom$Line" "till" "I" ∈ xtb := in_xtb (i := 851) (by decide +kernel) rfl
theorem lk_X4_21 {y : MethodName} (hy : y.cls = RX4) : xLk y 21 6 2 := ⟨xc6, by decide, "ReadersRoom$Line", (by rw [hy]; exact w_851), Or.inl rfl⟩
theorem w_853 : Cond.fieldLink RX4 24 "ReadersRoom$Line" "shift" "I" ∈ xtb := in_xtb (i := 853) (by decide +kernel) rfl
theorem lk_X4_24 {y : MethodName} (hy : y.cls = RX4) : xLk y 24 6 3 := ⟨xc6, by decide, "ReadersRoom$Line", (by rw [hy]; exact w_853), Or.inl rfl⟩
theorem w_856 : Cond.fieldLink RX4 27 "ReadersRoom$Line" "over" "I" ∈ xtb := in_xtb (i := 856) (by decide +kernel) rfl
theorem lk_X4_27 {y : MethodName} (hy : y.cls = RX4) : xLk y 27 6 4 := ⟨xc6, by decide, "ReadersRoom$Line", (by rw [hy]; exact w_856), Or.inl rfl⟩
theorem w_859 : Cond.fieldLink RX4 30 "ReadersRoom$Line" "toldAt" "I" ∈ xtb := in_xtb (i := 859) (by decide +kernel) rfl
theorem lk_X4_30 {y : MethodName} (hy : y.cls = RX4) : xLk y 30 6 5 := ⟨xc6, by decide, "ReadersRoom$Line", (by rw [hy]; exact w_859), Or.inl rfl⟩
theorem w_890 : Cond.code yX11_isKnowable cX11_isKnowable 4 (some .boolean) ∈ xtb := in_xtb (i := 890) (by decide +kernel) rfl
theorem cb_X11_isKnowable : xCb yX11_isKnowable cX11_isKnowable 4 (some .boolean) 3 := ⟨w_1, w_890, by decide, by decide, by decide +kernel⟩
theorem w_887 : Cond.methodLink RX11 372 yX11_isKnowable ∈ xtb := in_xtb (i := 887) (by decide +kernel) rfl
theorem w_889 : Cond.instanceMethod yX11_isKnowable ∈ xtb := in_xtb (i := 889) (by decide +kernel) rfl
theorem v_29 : Cond.selects yX11_isKnowable.cls yX11_isKnowable yX11_isKnowable ∈ xtb := in_priv (i := 29) (by decide +kernel) rfl
theorem w_894 : Cond.code yX1_follow cX1_follow 5 (none) ∈ xtb := in_xtb (i := 894) (by decide +kernel) rfl
theorem cb_X1_follow : xCb yX1_follow cX1_follow 5 (none) 3 := ⟨w_5, w_894, by decide, by decide, by decide +kernel⟩
theorem w_891 : Cond.methodLink RX11 375 yX1_follow ∈ xtb := in_xtb (i := 891) (by decide +kernel) rfl
theorem w_892 : Cond.instanceMethod yX1_follow ∈ xtb := in_xtb (i := 892) (by decide +kernel) rfl
theorem w_893 : Cond.selects yX1_follow.cls yX1_follow yX1_follow ∈ xtb := in_xtb (i := 893) (by decide +kernel) rfl
theorem w_71 : Cond.fieldLink RX11 379 "ReadersRoom$Catalogue" "many" "I" ∈ xtb := in_xtb (i := 71) (by decide +kernel) rfl
theorem lk_X11_379 {y : MethodName} (hy : y.cls = RX11) : xLk y 379 3 1 := ⟨xc3, by decide, "ReadersRoom$Catalogue", (by rw [hy]; exact w_71), Or.inl rfl⟩
theorem w_898 : Cond.code yX1_turnAll cX1_turnAll 8 (none) ∈ xtb := in_xtb (i := 898) (by decide +kernel) rfl
theorem cb_X1_turnAll : xCb yX1_turnAll cX1_turnAll 8 (none) 2 := ⟨w_5, w_898, by decide, by decide, by decide +kernel⟩
theorem w_895 : Cond.methodLink RX1 56 yX1_turnAll ∈ xtb := in_xtb (i := 895) (by decide +kernel) rfl
theorem w_897 : Cond.instanceMethod yX1_turnAll ∈ xtb := in_xtb (i := 897) (by decide +kernel) rfl
theorem v_30 : Cond.selects yX1_turnAll.cls yX1_turnAll yX1_turnAll ∈ xtb := in_priv (i := 30) (by decide +kernel) rfl
theorem w_902 : Cond.code yX4_turns cX4_turns 5 (some .boolean) ∈ xtb := in_xtb (i := 902) (by decide +kernel) rfl
theorem cb_X4_turns : xCb yX4_turns cX4_turns 5 (some .boolean) 3 := ⟨w_22, w_902, by decide, by decide, by decide +kernel⟩
theorem w_899 : Cond.methodLink RX1 60 yX4_turns ∈ xtb := in_xtb (i := 899) (by decide +kernel) rfl
theorem w_900 : Cond.instanceMethod yX4_turns ∈ xtb := in_xtb (i := 900) (by decide +kernel) rfl
theorem w_901 : Cond.selects yX4_turns.cls yX4_turns yX4_turns ∈ xtb := in_xtb (i := 901) (by decide +kernel) rfl
theorem w_907 : Cond.code yX1_include cX1_include 4 (none) ∈ xtb := in_xtb (i := 907) (by decide +kernel) rfl
theorem cb_X1_include : xCb yX1_include cX1_include 4 (none) 1 := ⟨w_5, w_907, by decide, by decide, by decide +kernel⟩
theorem w_854 : Cond.fieldLink RX1 64 "ReadersRoom$Line" "shift" "I" ∈ xtb := in_xtb (i := 854) (by decide +kernel) rfl
theorem lk_X1_64 {y : MethodName} (hy : y.cls = RX1) : xLk y 64 6 3 := ⟨xc6, by decide, "ReadersRoom$Line", (by rw [hy]; exact w_854), Or.inl rfl⟩
theorem w_904 : Cond.methodLink RX1 67 yX1_include ∈ xtb := in_xtb (i := 904) (by decide +kernel) rfl
theorem w_906 : Cond.instanceMethod yX1_include ∈ xtb := in_xtb (i := 906) (by decide +kernel) rfl
theorem v_31 : Cond.selects yX1_include.cls yX1_include yX1_include ∈ xtb := in_priv (i := 31) (by decide +kernel) rfl
theorem w_908 : Cond.methodLink RX1 71 arraycopyName ∈ xtb := in_xtb (i := 908) (by decide +kernel) rfl
theorem w_903 : Cond.methodLinkNest RX4 33 yX11_isMark "ReadersRoom" ∈ xrs := in_xrs (i := 903) (by decide +kernel) rfl
theorem w_73 : Cond.fieldLink RX11 380 "ReadersRoom$Catalogue" "marks" "[I" ∈ xtb := in_xtb (i := 73) (by decide +kernel) rfl
theorem lk_X11_380 {y : MethodName} (hy : y.cls = RX11) : xLk y 380 3 2 := ⟨xc3, by decide, "ReadersRoom$Catalogue", (by rw [hy]; exact w_73), Or.inl rfl⟩
theorem w_924 : Cond.code yX11_likelihood cX11_likelihood 7 (some .int) ∈ xtb := in_xtb (i := 924) (by decide +kernel) rfl
theorem cb_X11_likelihood : xCb yX11_likelihood cX11_likelihood 7 (some .int) 2 := ⟨w_1, w_924, by decide, by decide, by decide +kernel⟩
theorem w_921 : Cond.methodLink RX11 383 yX11_likelihood ∈ xtb := in_xtb (i := 921) (by decide +kernel) rfl
theorem w_923 : Cond.instanceMethod yX11_likelihood ∈ xtb := in_xtb (i := 923) (by decide +kernel) rfl
theorem v_32 : Cond.selects yX11_likelihood.cls yX11_likelihood yX11_likelihood ∈ xtb := in_priv (i := 32) (by decide +kernel) rfl
theorem w_931 : Cond.code yX11_isOwnShelf cX11_isOwnShelf 2 (some .boolean) ∈ xtb := in_xtb (i := 931) (by decide +kernel) rfl
theorem cb_X11_isOwnShelf : xCb yX11_isOwnShelf cX11_isOwnShelf 2 (some .boolean) 2 := ⟨w_1, w_931, by decide, by decide, by decide +kernel⟩
theorem w_928 : Cond.code yX11_nextGreater cX11_nextGreater 5 (some (.object "ReadersRoom$Book")) ∈ xtb := in_xtb (i := 928) (by decide +kernel) rfl
theorem cb_X11_nextGreater : xCb yX11_nextGreater cX11_nextGreater 5 (some (.object "ReadersRoom$Book")) 1 := ⟨w_1, w_928, by decide, by decide, by decide +kernel⟩
theorem w_925 : Cond.methodLink RX11 518 yX11_nextGreater ∈ xtb := in_xtb (i := 925) (by decide +kernel) rfl
theorem w_927 : Cond.instanceMethod yX11_nextGreater ∈ xtb := in_xtb (i := 927) (by decide +kernel) rfl
theorem v_33 : Cond.selects yX11_nextGreater.cls yX11_nextGreater yX11_nextGreater ∈ xtb := in_priv (i := 33) (by decide +kernel) rfl
theorem w_930 : Cond.static yX11_isOwnShelf ∈ xtb := in_xtb (i := 930) (by decide +kernel) rfl
theorem w_929 : Cond.methodLink RX11 522 yX11_isOwnShelf ∈ xtb := in_xtb (i := 929) (by decide +kernel) rfl
theorem w_935 : Cond.code yX11_nextLesser cX11_nextLesser 5 (some (.object "ReadersRoom$Book")) ∈ xtb := in_xtb (i := 935) (by decide +kernel) rfl
theorem cb_X11_nextLesser : xCb yX11_nextLesser cX11_nextLesser 5 (some (.object "ReadersRoom$Book")) 1 := ⟨w_1, w_935, by decide, by decide, by decide +kernel⟩
theorem w_932 : Cond.methodLink RX11 526 yX11_nextLesser ∈ xtb := in_xtb (i := 932) (by decide +kernel) rfl
theorem w_934 : Cond.instanceMethod yX11_nextLesser ∈ xtb := in_xtb (i := 934) (by decide +kernel) rfl
theorem v_34 : Cond.selects yX11_nextLesser.cls yX11_nextLesser yX11_nextLesser ∈ xtb := in_priv (i := 34) (by decide +kernel) rfl
theorem w_939 : Cond.code yX11_lastReaderOf cX11_lastReaderOf 4 (some .int) ∈ xtb := in_xtb (i := 939) (by decide +kernel) rfl
theorem cb_X11_lastReaderOf : xCb yX11_lastReaderOf cX11_lastReaderOf 4 (some .int) 1 := ⟨w_1, w_939, by decide, by decide, by decide +kernel⟩
theorem w_936 : Cond.methodLink RX11 529 yX11_lastReaderOf ∈ xtb := in_xtb (i := 936) (by decide +kernel) rfl
theorem w_938 : Cond.instanceMethod yX11_lastReaderOf ∈ xtb := in_xtb (i := 938) (by decide +kernel) rfl
theorem v_35 : Cond.selects yX11_lastReaderOf.cls yX11_lastReaderOf yX11_lastReaderOf ∈ xtb := in_priv (i := 35) (by decide +kernel) rfl
theorem w_942 : Cond.code yX11_isSwapped cX11_isSwapped 5 (some .boolean) ∈ xtb := in_xtb (i := 942) (by decide +kernel) rfl
theorem cb_X11_isSwapped : xCb yX11_isSwapped cX11_isSwapped 5 (some .boolean) 2 := ⟨w_1, w_942, by decide, by decide, by decide +kernel⟩
theorem w_941 : Cond.static yX11_isSwapped ∈ xtb := in_xtb (i := 941) (by decide +kernel) rfl
theorem w_940 : Cond.methodLink RX11 532 yX11_isSwapped ∈ xtb := in_xtb (i := 940) (by decide +kernel) rfl
theorem w_946 : Cond.code yX11_everHad cX11_everHad 4 (some .boolean) ∈ xtb := in_xtb (i := 946) (by decide +kernel) rfl
theorem cb_X11_everHad : xCb yX11_everHad cX11_everHad 4 (some .boolean) 2 := ⟨w_1, w_946, by decide, by decide, by decide +kernel⟩
theorem w_943 : Cond.methodLink RX11 535 yX11_everHad ∈ xtb := in_xtb (i := 943) (by decide +kernel) rfl
theorem w_945 : Cond.instanceMethod yX11_everHad ∈ xtb := in_xtb (i := 945) (by decide +kernel) rfl
theorem v_36 : Cond.selects yX11_everHad.cls yX11_everHad yX11_everHad ∈ xtb := in_priv (i := 36) (by decide +kernel) rfl
theorem w_344 : Cond.fieldLink RX11 540 "ReadersRoom$Had" "reader" "I" ∈ xtb := in_xtb (i := 344) (by decide +kernel) rfl
theorem lk_X11_540 {y : MethodName} (hy : y.cls = RX11) : xLk y 540 5 1 := ⟨xc5, by decide, "ReadersRoom$Had", (by rw [hy]; exact w_344), Or.inl rfl⟩
theorem w_342 : Cond.fieldLink RX11 539 "ReadersRoom$Had" "book" "I" ∈ xtb := in_xtb (i := 342) (by decide +kernel) rfl
theorem lk_X11_539 {y : MethodName} (hy : y.cls = RX11) : xLk y 539 5 0 := ⟨xc5, by decide, "ReadersRoom$Had", (by rw [hy]; exact w_342), Or.inl rfl⟩
theorem w_953 : Cond.code yX11_bestShelves cX11_bestShelves 10 (some .int) ∈ xtb := in_xtb (i := 953) (by decide +kernel) rfl
theorem cb_X11_bestShelves : xCb yX11_bestShelves cX11_bestShelves 10 (some .int) 3 := ⟨w_1, w_953, by decide, by decide, by decide +kernel⟩
theorem w_952 : Cond.static yX11_bestShelves ∈ xtb := in_xtb (i := 952) (by decide +kernel) rfl
theorem w_951 : Cond.methodLink RX11 387 yX11_bestShelves ∈ xtb := in_xtb (i := 951) (by decide +kernel) rfl
theorem w_959 : Cond.code yX11_sumOfBits cX11_sumOfBits 4 (some .int) ∈ xtb := in_xtb (i := 959) (by decide +kernel) rfl
theorem cb_X11_sumOfBits : xCb yX11_sumOfBits cX11_sumOfBits 4 (some .int) 2 := ⟨w_1, w_959, by decide, by decide, by decide +kernel⟩
theorem w_958 : Cond.static yX11_sumOfBits ∈ xtb := in_xtb (i := 958) (by decide +kernel) rfl
theorem w_957 : Cond.methodLink RX11 391 yX11_sumOfBits ∈ xtb := in_xtb (i := 957) (by decide +kernel) rfl
theorem w_956 : Cond.code yX11_unlikelyShelves cX11_unlikelyShelves 3 (some .int) ∈ xtb := in_xtb (i := 956) (by decide +kernel) rfl
theorem cb_X11_unlikelyShelves : xCb yX11_unlikelyShelves cX11_unlikelyShelves 3 (some .int) 1 := ⟨w_1, w_956, by decide, by decide, by decide +kernel⟩
theorem w_955 : Cond.static yX11_unlikelyShelves ∈ xtb := in_xtb (i := 955) (by decide +kernel) rfl
theorem w_954 : Cond.methodLink RX11 544 yX11_unlikelyShelves ∈ xtb := in_xtb (i := 954) (by decide +kernel) rfl
theorem w_967 : Cond.code yX11_tellFraction cX11_tellFraction 7 (none) ∈ xtb := in_xtb (i := 967) (by decide +kernel) rfl
theorem cb_X11_tellFraction : xCb yX11_tellFraction cX11_tellFraction 7 (none) 2 := ⟨w_1, w_967, by decide, by decide, by decide +kernel⟩
theorem w_964 : Cond.methodLink RX11 395 yX11_tellFraction ∈ xtb := in_xtb (i := 964) (by decide +kernel) rfl
theorem w_966 : Cond.instanceMethod yX11_tellFraction ∈ xtb := in_xtb (i := 966) (by decide +kernel) rfl
theorem v_37 : Cond.selects yX11_tellFraction.cls yX11_tellFraction yX11_tellFraction ∈ xtb := in_priv (i := 37) (by decide +kernel) rfl
theorem w_970 : Cond.code yX11_greatestShared cX11_greatestShared 7 (some .long) ∈ xtb := in_xtb (i := 970) (by decide +kernel) rfl
theorem cb_X11_greatestShared : xCb yX11_greatestShared cX11_greatestShared 7 (some .long) 2 := ⟨w_1, w_970, by decide, by decide, by decide +kernel⟩
theorem w_969 : Cond.static yX11_greatestShared ∈ xtb := in_xtb (i := 969) (by decide +kernel) rfl
theorem w_968 : Cond.methodLink RX11 552 yX11_greatestShared ∈ xtb := in_xtb (i := 968) (by decide +kernel) rfl
theorem w_721 : Cond.fieldLink RX11 401 "ReadersRoom$Look" "book" "I" ∈ xtb := in_xtb (i := 721) (by decide +kernel) rfl
theorem lk_X11_401 {y : MethodName} (hy : y.cls = RX11) : xLk y 401 7 0 := ⟨xc7, by decide, "ReadersRoom$Look", (by rw [hy]; exact w_721), Or.inl rfl⟩
theorem w_723 : Cond.fieldLink RX11 403 "ReadersRoom$Look" "minute" "I" ∈ xtb := in_xtb (i := 723) (by decide +kernel) rfl
theorem lk_X11_403 {y : MethodName} (hy : y.cls = RX11) : xLk y 403 7 1 := ⟨xc7, by decide, "ReadersRoom$Look", (by rw [hy]; exact w_723), Or.inl rfl⟩
theorem w_725 : Cond.fieldLink RX11 406 "ReadersRoom$Look" "present" "I" ∈ xtb := in_xtb (i := 725) (by decide +kernel) rfl
theorem lk_X11_406 {y : MethodName} (hy : y.cls = RX11) : xLk y 406 7 2 := ⟨xc7, by decide, "ReadersRoom$Look", (by rw [hy]; exact w_725), Or.inl rfl⟩
theorem w_982 : Cond.code yX6_carry cX6_carry 6 (some .int) ∈ xtb := in_xtb (i := 982) (by decide +kernel) rfl
theorem cb_X6_carry : xCb yX6_carry cX6_carry 6 (some .int) 3 := ⟨w_7, w_982, by decide, by decide, by decide +kernel⟩
theorem w_979 : Cond.methodLink RX11 409 yX6_carry ∈ xtb := in_xtb (i := 979) (by decide +kernel) rfl
theorem w_980 : Cond.instanceMethod yX6_carry ∈ xtb := in_xtb (i := 980) (by decide +kernel) rfl
theorem w_981 : Cond.selects yX6_carry.cls yX6_carry yX6_carry ∈ xtb := in_xtb (i := 981) (by decide +kernel) rfl
theorem w_153 : Cond.fieldLink RX6 27 "ReadersRoom$Row" "size" "I" ∈ xtb := in_xtb (i := 153) (by decide +kernel) rfl
theorem lk_X6_27 {y : MethodName} (hy : y.cls = RX6) : xLk y 27 10 0 := ⟨xc10, by decide, "ReadersRoom$Row", (by rw [hy]; exact w_153), Or.inl rfl⟩
theorem w_983 : Cond.constant RX6 32 1000000 ∈ xtb := in_xtb (i := 983) (by decide +kernel) rfl
theorem w_987 : Cond.code yX6_fill cX6_fill 10 (none) ∈ xtb := in_xtb (i := 987) (by decide +kernel) rfl
theorem cb_X6_fill : xCb yX6_fill cX6_fill 10 (none) 5 := ⟨w_7, w_987, by decide, by decide, by decide +kernel⟩
theorem w_156 : Cond.fieldLink RX6 33 "ReadersRoom$Row" "places" "[I" ∈ xtb := in_xtb (i := 156) (by decide +kernel) rfl
theorem lk_X6_33 {y : MethodName} (hy : y.cls = RX6) : xLk y 33 10 1 := ⟨xc10, by decide, "ReadersRoom$Row", (by rw [hy]; exact w_156), Or.inl rfl⟩
theorem w_984 : Cond.methodLink RX6 36 yX6_fill ∈ xtb := in_xtb (i := 984) (by decide +kernel) rfl
theorem w_986 : Cond.instanceMethod yX6_fill ∈ xtb := in_xtb (i := 986) (by decide +kernel) rfl
theorem v_38 : Cond.selects yX6_fill.cls yX6_fill yX6_fill ∈ xtb := in_priv (i := 38) (by decide +kernel) rfl
theorem w_991 : Cond.code yX6_settle cX6_settle 6 (none) ∈ xtb := in_xtb (i := 991) (by decide +kernel) rfl
theorem cb_X6_settle : xCb yX6_settle cX6_settle 6 (none) 1 := ⟨w_7, w_991, by decide, by decide, by decide +kernel⟩
theorem w_988 : Cond.methodLink RX6 40 yX6_settle ∈ xtb := in_xtb (i := 988) (by decide +kernel) rfl
theorem w_990 : Cond.instanceMethod yX6_settle ∈ xtb := in_xtb (i := 990) (by decide +kernel) rfl
theorem v_39 : Cond.selects yX6_settle.cls yX6_settle yX6_settle ∈ xtb := in_priv (i := 39) (by decide +kernel) rfl
theorem w_133 : Cond.fieldLink RX11 413 "ReadersRoom$Mover" "classes" "I" ∈ xtb := in_xtb (i := 133) (by decide +kernel) rfl
theorem lk_X11_413 {y : MethodName} (hy : y.cls = RX11) : xLk y 413 8 0 := ⟨xc8, by decide, "ReadersRoom$Mover", (by rw [hy]; exact w_133), Or.inl rfl⟩
theorem w_135 : Cond.fieldLink RX11 416 "ReadersRoom$Mover" "shelves" "[I" ∈ xtb := in_xtb (i := 135) (by decide +kernel) rfl
theorem lk_X11_416 {y : MethodName} (hy : y.cls = RX11) : xLk y 416 8 1 := ⟨xc8, by decide, "ReadersRoom$Mover", (by rw [hy]; exact w_135), Or.inl rfl⟩
theorem w_1002 : Cond.code yX11_isMinute cX11_isMinute 1 (some .boolean) ∈ xtb := in_xtb (i := 1002) (by decide +kernel) rfl
theorem cb_X11_isMinute : xCb yX11_isMinute cX11_isMinute 1 (some .boolean) 1 := ⟨w_1, w_1002, by decide, by decide, by decide +kernel⟩
theorem w_1001 : Cond.static yX11_isMinute ∈ xtb := in_xtb (i := 1001) (by decide +kernel) rfl
theorem w_1000 : Cond.methodLink RX11 419 yX11_isMinute ∈ xtb := in_xtb (i := 1000) (by decide +kernel) rfl
theorem w_23 : Cond.initialized yX2_init.cls ∈ xtb := in_xtb (i := 23) (by decide +kernel) rfl
theorem w_1006 : Cond.code yX2_init cX2_init 3 (none) ∈ xtb := in_xtb (i := 1006) (by decide +kernel) rfl
theorem cb_X2_init : xCb yX2_init cX2_init 3 (none) 2 := ⟨w_23, w_1006, by decide, by decide, by decide +kernel⟩
theorem w_1004 : Cond.methodLink RX11 424 yX2_init ∈ xtb := in_xtb (i := 1004) (by decide +kernel) rfl
theorem w_1005 : Cond.instanceMethod yX2_init ∈ xtb := in_xtb (i := 1005) (by decide +kernel) rfl
theorem w_1007 : Cond.methodLink RX2 1 Lib.objectInit ∈ xtb := in_xtb (i := 1007) (by decide +kernel) rfl
theorem w_1008 : Cond.fieldLink RX2 7 "ReadersRoom$Eye" "from" "I" ∈ xtb := in_xtb (i := 1008) (by decide +kernel) rfl
theorem lk_X2_7 {y : MethodName} (hy : y.cls = RX2) : xLk y 7 4 0 := ⟨xc4, by decide, "ReadersRoom$Eye", (by rw [hy]; exact w_1008), Or.inl rfl⟩
theorem w_1010 : Cond.fieldLink RX2 13 "ReadersRoom$Eye" "till" "I" ∈ xtb := in_xtb (i := 1010) (by decide +kernel) rfl
theorem lk_X2_13 {y : MethodName} (hy : y.cls = RX2) : xLk y 13 4 1 := ⟨xc4, by decide, "ReadersRoom$Eye", (by rw [hy]; exact w_1010), Or.inl rfl⟩
theorem w_1028 : Cond.code yX11_lastPresent cX11_lastPresent 3 (some .int) ∈ xtb := in_xtb (i := 1028) (by decide +kernel) rfl
theorem cb_X11_lastPresent : xCb yX11_lastPresent cX11_lastPresent 3 (some .int) 1 := ⟨w_1, w_1028, by decide, by decide, by decide +kernel⟩
theorem w_1025 : Cond.methodLink RX11 428 yX11_lastPresent ∈ xtb := in_xtb (i := 1025) (by decide +kernel) rfl
theorem w_1027 : Cond.instanceMethod yX11_lastPresent ∈ xtb := in_xtb (i := 1027) (by decide +kernel) rfl
theorem v_40 : Cond.selects yX11_lastPresent.cls yX11_lastPresent yX11_lastPresent ∈ xtb := in_priv (i := 40) (by decide +kernel) rfl
theorem w_1036 : Cond.code yX11_firstAbsentBehind cX11_firstAbsentBehind 4 (some .int) ∈ xtb := in_xtb (i := 1036) (by decide +kernel) rfl
theorem cb_X11_firstAbsentBehind : xCb yX11_firstAbsentBehind cX11_firstAbsentBehind 4 (some .int) 2 := ⟨w_1, w_1036, by decide, by decide, by decide +kernel⟩
theorem w_1033 : Cond.methodLink RX11 432 yX11_firstAbsentBehind ∈ xtb := in_xtb (i := 1033) (by decide +kernel) rfl
theorem w_1035 : Cond.instanceMethod yX11_firstAbsentBehind ∈ xtb := in_xtb (i := 1035) (by decide +kernel) rfl
theorem v_42 : Cond.selects yX11_firstAbsentBehind.cls yX11_firstAbsentBehind yX11_firstAbsentBehind ∈ xtb := in_priv (i := 42) (by decide +kernel) rfl
theorem w_1032 : Cond.code yX11_isLook cX11_isLook 4 (some .boolean) ∈ xtb := in_xtb (i := 1032) (by decide +kernel) rfl
theorem cb_X11_isLook : xCb yX11_isLook cX11_isLook 4 (some .boolean) 3 := ⟨w_1, w_1032, by decide, by decide, by decide +kernel⟩
theorem w_1029 : Cond.methodLink RX11 548 yX11_isLook ∈ xtb := in_xtb (i := 1029) (by decide +kernel) rfl
theorem w_1031 : Cond.instanceMethod yX11_isLook ∈ xtb := in_xtb (i := 1031) (by decide +kernel) rfl
theorem v_41 : Cond.selects yX11_isLook.cls yX11_isLook yX11_isLook ∈ xtb := in_priv (i := 41) (by decide +kernel) rfl
theorem w_1044 : Cond.code yX11_readersOf cX11_readersOf 7 (some .int) ∈ xtb := in_xtb (i := 1044) (by decide +kernel) rfl
theorem cb_X11_readersOf : xCb yX11_readersOf cX11_readersOf 7 (some .int) 3 := ⟨w_1, w_1044, by decide, by decide, by decide +kernel⟩
theorem w_1041 : Cond.methodLink RX11 435 yX11_readersOf ∈ xtb := in_xtb (i := 1041) (by decide +kernel) rfl
theorem w_1043 : Cond.instanceMethod yX11_readersOf ∈ xtb := in_xtb (i := 1043) (by decide +kernel) rfl
theorem v_43 : Cond.selects yX11_readersOf.cls yX11_readersOf yX11_readersOf ∈ xtb := in_priv (i := 43) (by decide +kernel) rfl
theorem w_1048 : Cond.code yX3_touches cX3_touches 3 (some .boolean) ∈ xtb := in_xtb (i := 1048) (by decide +kernel) rfl
theorem cb_X3_touches : xCb yX3_touches cX3_touches 3 (some .boolean) 2 := ⟨w_13, w_1048, by decide, by decide, by decide +kernel⟩
theorem w_1045 : Cond.methodLink RX11 541 yX3_touches ∈ xtb := in_xtb (i := 1045) (by decide +kernel) rfl
theorem w_1046 : Cond.instanceMethod yX3_touches ∈ xtb := in_xtb (i := 1046) (by decide +kernel) rfl
theorem w_1047 : Cond.selects yX3_touches.cls yX3_touches yX3_touches ∈ xtb := in_xtb (i := 1047) (by decide +kernel) rfl
theorem w_1067 : Cond.code yX11_countThere cX11_countThere 3 (some .int) ∈ xtb := in_xtb (i := 1067) (by decide +kernel) rfl
theorem cb_X11_countThere : xCb yX11_countThere cX11_countThere 3 (some .int) 1 := ⟨w_1, w_1067, by decide, by decide, by decide +kernel⟩
theorem w_1066 : Cond.static yX11_countThere ∈ xtb := in_xtb (i := 1066) (by decide +kernel) rfl
theorem w_1065 : Cond.methodLink RX11 439 yX11_countThere ∈ xtb := in_xtb (i := 1065) (by decide +kernel) rfl
theorem w_1080 : Cond.constantLong RX11 443 17 ∈ xtb := in_xtb (i := 1080) (by decide +kernel) rfl
theorem w_1084 : Cond.code yX11_mix cX11_mix 3 (some .long) ∈ xtb := in_xtb (i := 1084) (by decide +kernel) rfl
theorem cb_X11_mix : xCb yX11_mix cX11_mix 3 (some .long) 2 := ⟨w_1, w_1084, by decide, by decide, by decide +kernel⟩
theorem w_1064 : Cond.code yX11_count cX11_count 2 (some .int) ∈ xtb := in_xtb (i := 1064) (by decide +kernel) rfl
theorem cb_X11_count : xCb yX11_count cX11_count 2 (some .int) 1 := ⟨w_1, w_1064, by decide, by decide, by decide +kernel⟩
theorem w_1081 : Cond.methodLink RX11 445 yX11_count ∈ xtb := in_xtb (i := 1081) (by decide +kernel) rfl
theorem w_1062 : Cond.instanceMethod yX11_count ∈ xtb := in_xtb (i := 1062) (by decide +kernel) rfl
theorem w_1063 : Cond.selects yX11_count.cls yX11_count yX11_count ∈ xtb := in_xtb (i := 1063) (by decide +kernel) rfl
theorem w_1083 : Cond.static yX11_mix ∈ xtb := in_xtb (i := 1083) (by decide +kernel) rfl
theorem w_1082 : Cond.methodLink RX11 448 yX11_mix ∈ xtb := in_xtb (i := 1082) (by decide +kernel) rfl
theorem w_1089 : Cond.code yX11_mixBooks cX11_mixBooks 6 (some .long) ∈ xtb := in_xtb (i := 1089) (by decide +kernel) rfl
theorem cb_X11_mixBooks : xCb yX11_mixBooks cX11_mixBooks 6 (some .long) 1 := ⟨w_1, w_1089, by decide, by decide, by decide +kernel⟩
theorem w_1086 : Cond.methodLink RX11 452 yX11_mixBooks ∈ xtb := in_xtb (i := 1086) (by decide +kernel) rfl
theorem w_1088 : Cond.instanceMethod yX11_mixBooks ∈ xtb := in_xtb (i := 1088) (by decide +kernel) rfl
theorem v_44 : Cond.selects yX11_mixBooks.cls yX11_mixBooks yX11_mixBooks ∈ xtb := in_priv (i := 44) (by decide +kernel) rfl
theorem w_1093 : Cond.code yX11_mixSlips cX11_mixSlips 5 (some .long) ∈ xtb := in_xtb (i := 1093) (by decide +kernel) rfl
theorem cb_X11_mixSlips : xCb yX11_mixSlips cX11_mixSlips 5 (some .long) 1 := ⟨w_1, w_1093, by decide, by decide, by decide +kernel⟩
theorem w_1090 : Cond.methodLink RX11 456 yX11_mixSlips ∈ xtb := in_xtb (i := 1090) (by decide +kernel) rfl
theorem w_1092 : Cond.instanceMethod yX11_mixSlips ∈ xtb := in_xtb (i := 1092) (by decide +kernel) rfl
theorem v_45 : Cond.selects yX11_mixSlips.cls yX11_mixSlips yX11_mixSlips ∈ xtb := in_priv (i := 45) (by decide +kernel) rfl
theorem w_591 : Cond.fieldLink RX11 459 "ReadersRoom$Rule" "toldOn" "I" ∈ xtb := in_xtb (i := 591) (by decide +kernel) rfl
theorem lk_X11_459 {y : MethodName} (hy : y.cls = RX11) : xLk y 459 11 0 := ⟨xc11, by decide, "ReadersRoom$Rule", (by rw [hy]; exact w_591), Or.inl rfl⟩
theorem w_1097 : Cond.code yX11_mixLines cX11_mixLines 5 (some .long) ∈ xtb := in_xtb (i := 1097) (by decide +kernel) rfl
theorem cb_X11_mixLines : xCb yX11_mixLines cX11_mixLines 5 (some .long) 1 := ⟨w_1, w_1097, by decide, by decide, by decide +kernel⟩
theorem w_1094 : Cond.methodLink RX11 462 yX11_mixLines ∈ xtb := in_xtb (i := 1094) (by decide +kernel) rfl
theorem w_1096 : Cond.instanceMethod yX11_mixLines ∈ xtb := in_xtb (i := 1096) (by decide +kernel) rfl
theorem v_46 : Cond.selects yX11_mixLines.cls yX11_mixLines yX11_mixLines ∈ xtb := in_priv (i := 46) (by decide +kernel) rfl
theorem w_1101 : Cond.code yX11_mixLooks cX11_mixLooks 5 (some .long) ∈ xtb := in_xtb (i := 1101) (by decide +kernel) rfl
theorem cb_X11_mixLooks : xCb yX11_mixLooks cX11_mixLooks 5 (some .long) 1 := ⟨w_1, w_1101, by decide, by decide, by decide +kernel⟩
theorem w_1098 : Cond.methodLink RX11 465 yX11_mixLooks ∈ xtb := in_xtb (i := 1098) (by decide +kernel) rfl
theorem w_1100 : Cond.instanceMethod yX11_mixLooks ∈ xtb := in_xtb (i := 1100) (by decide +kernel) rfl
theorem v_47 : Cond.selects yX11_mixLooks.cls yX11_mixLooks yX11_mixLooks ∈ xtb := in_priv (i := 47) (by decide +kernel) rfl
theorem w_1105 : Cond.code yX11_mixHads cX11_mixHads 5 (some .long) ∈ xtb := in_xtb (i := 1105) (by decide +kernel) rfl
theorem cb_X11_mixHads : xCb yX11_mixHads cX11_mixHads 5 (some .long) 1 := ⟨w_1, w_1105, by decide, by decide, by decide +kernel⟩
theorem w_1102 : Cond.methodLink RX11 468 yX11_mixHads ∈ xtb := in_xtb (i := 1102) (by decide +kernel) rfl
theorem w_1104 : Cond.instanceMethod yX11_mixHads ∈ xtb := in_xtb (i := 1104) (by decide +kernel) rfl
theorem v_48 : Cond.selects yX11_mixHads.cls yX11_mixHads yX11_mixHads ∈ xtb := in_priv (i := 48) (by decide +kernel) rfl
theorem w_1108 : Cond.code yX11_mixRows cX11_mixRows 6 (some .long) ∈ xtb := in_xtb (i := 1108) (by decide +kernel) rfl
theorem cb_X11_mixRows : xCb yX11_mixRows cX11_mixRows 6 (some .long) 2 := ⟨w_1, w_1108, by decide, by decide, by decide +kernel⟩
theorem w_1107 : Cond.static yX11_mixRows ∈ xtb := in_xtb (i := 1107) (by decide +kernel) rfl
theorem w_1106 : Cond.methodLink RX11 475 yX11_mixRows ∈ xtb := in_xtb (i := 1106) (by decide +kernel) rfl
theorem w_1085 : Cond.constantLong RX11 556 31 ∈ xtb := in_xtb (i := 1085) (by decide +kernel) rfl
theorem w_346 : Cond.fieldLink RX11 569 "ReadersRoom$Had" "from" "I" ∈ xtb := in_xtb (i := 346) (by decide +kernel) rfl
theorem lk_X11_569 {y : MethodName} (hy : y.cls = RX11) : xLk y 569 5 2 := ⟨xc5, by decide, "ReadersRoom$Had", (by rw [hy]; exact w_346), Or.inl rfl⟩
theorem w_349 : Cond.fieldLink RX11 570 "ReadersRoom$Had" "till" "I" ∈ xtb := in_xtb (i := 349) (by decide +kernel) rfl
theorem lk_X11_570 {y : MethodName} (hy : y.cls = RX11) : xLk y 570 5 3 := ⟨xc5, by decide, "ReadersRoom$Had", (by rw [hy]; exact w_349), Or.inl rfl⟩
theorem w_848 : Cond.fieldLink RX11 558 "ReadersRoom$Line" "age" "I" ∈ xtb := in_xtb (i := 848) (by decide +kernel) rfl
theorem lk_X11_558 {y : MethodName} (hy : y.cls = RX11) : xLk y 558 6 0 := ⟨xc6, by decide, "ReadersRoom$Line", (by rw [hy]; exact w_848), Or.inl rfl⟩
theorem w_850 : Cond.fieldLink RX11 561 "ReadersRoom$Line" "from" "I" ∈ xtb := in_xtb (i := 850) (by decide +kernel) rfl
theorem lk_X11_561 {y : MethodName} (hy : y.cls = RX11) : xLk y 561 6 1 := ⟨xc6, by decide, "ReadersRoom$Line", (by rw [hy]; exact w_850), Or.inl rfl⟩
theorem w_852 : Cond.fieldLink RX11 562 "ReadersRoom$Line" "till" "I" ∈ xtb := in_xtb (i := 852) (by decide +kernel) rfl
theorem lk_X11_562 {y : MethodName} (hy : y.cls = RX11) : xLk y 562 6 2 := ⟨xc6, by decide, "ReadersRoom$Line", (by rw [hy]; exact w_852), Or.inl rfl⟩
theorem w_855 : Cond.fieldLink RX11 563 "ReadersRoom$Line" "shift" "I" ∈ xtb := in_xtb (i := 855) (by decide +kernel) rfl
theorem lk_X11_563 {y : MethodName} (hy : y.cls = RX11) : xLk y 563 6 3 := ⟨xc6, by decide, "ReadersRoom$Line", (by rw [hy]; exact w_855), Or.inl rfl⟩
theorem w_858 : Cond.fieldLink RX11 566 "ReadersRoom$Line" "over" "I" ∈ xtb := in_xtb (i := 858) (by decide +kernel) rfl
theorem lk_X11_566 {y : MethodName} (hy : y.cls = RX11) : xLk y 566 6 4 := ⟨xc6, by decide, "ReadersRoom$Line", (by rw [hy]; exact w_858), Or.inl rfl⟩
