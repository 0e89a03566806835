set_option maxRecDepth 100000 in
theorem qw_143 : znt lw_tbl 1131 = some (.code yX10_slip cX10_slip 5 (some .int)) := by rfl
set_option maxRecDepth 100000 in
theorem qv_143 : (qmG (fun _ => true) (zinA 60) (zinA 1129) (zinA 1130) (yX10_slip, cX10_slip, 5, some .int, 11, qc143) && qfD yX10_slip.cls 5 cX10_slip (qall qc143) [0, 1114, 0, 0, 1117, 0, 0, 0, 0, 1051, 0, 0, 0, 0, 0, 0, 0, 0, 0, 0, 0, 0, 0, 1124, 0, 0, 0, 908, 0, 0, 0, 0, 0, 0, 0, 0, 0, 1132, 0, 915, 0, 0, 0, 0, 0, 0, 1136, 0, 0, 0, 0, 908, 0, 0, 0, 0, 909, 0, 0, 892, 0, 0, 0, 0, 892, 1132, 0, 0, 0, 892, 1136, 0, 0, 919, 0, 0]) = true := by decide +kernel
theorem qk_143 : qmok (yX10_slip, cX10_slip, 5, some .int, 11, qc143) := qmE_ok qw_143 rfl qv_143
set_option maxRecDepth 100000 in
theorem qw_144 : znt lw_tbl 1156 = some (.code yX10_look cX10_look 3 none) := by rfl
set_option maxRecDepth 100000 in
theorem qv_144 : (qmG (fun _ => true) (zinA 60) (zinA 1155) (zinA 35) (yX10_look, cX10_look, 3, none, 11, qc144) && qfD yX10_look.cls 3 cX10_look (qall qc144) [0, 0, 0, 1132, 0, 0, 0, 1136, 0, 0]) = true := by decide +kernel
theorem qk_144 : qmok (yX10_look, cX10_look, 3, none, 11, qc144) := qmE_ok qw_144 rfl qv_144
set_option maxRecDepth 100000 in
theorem qw_145 : znt lw_tbl 1152 = some (.code yX10_could cX10_could 3 (some .int)) := by rfl
set_option maxRecDepth 100000 in
theorem qv_145 : (qmG (fun _ => true) (zinA 60) (zinA 1150) (zinA 1151) (yX10_could, cX10_could, 3, some .int, 11, qc145) && qfD yX10_could.cls 3 cX10_could (qall qc145) [0, 1114, 0, 0, 1103, 0, 0, 0, 0, 0, 0, 1153, 0, 919, 0, 0]) = true := by decide +kernel
theorem qk_145 : qmok (yX10_could, cX10_could, 3, some .int, 11, qc145) := qmE_ok qw_145 rfl qv_145
set_option maxRecDepth 100000 in
theorem qw_146 : znt lw_tbl 1172 = some (.code yX10_average cX10_average 4 (some .int)) := by rfl
set_option maxRecDepth 100000 in
theorem qv_146 : (qmG (fun _ => true) (zinA 60) (zinA 1171) (zinA 38) (yX10_average, cX10_average, 4, some .int, 11, qc146) && qfD yX10_average.cls 4 cX10_average (qall qc146) [0, 912, 0, 0, 0, 911, 0, 0, 0, 0, 0, 0, 0, 913, 0, 0, 0, 0, 0, 0, 911, 0, 0, 0, 0, 913, 0, 0, 0, 0, 0, 0, 0, 0, 0, 0]) = true := by decide +kernel
theorem qk_146 : qmok (yX10_average, cX10_average, 4, some .int, 11, qc146) := qmE_ok qw_146 rfl qv_146
set_option maxRecDepth 100000 in
theorem qw_147 : znt lw_tbl 1168 = some (.code yX10_owedBy cX10_owedBy 7 (some .int)) := by rfl
set_option maxRecDepth 100000 in
theorem qv_147 : (qmG (fun _ => true) (zinA 60) (zinA 1167) (zinA 37) (yX10_owedBy, cX10_owedBy, 7, some .int, 11, qc147) && qfD yX10_owedBy.cls 7 cX10_owedBy (qall qc147) [0, 0, 0, 0, 0, 0, 0, 0, 0, 0, 0, 1124, 0, 0, 0, 0, 0, 0, 0, 0, 0, 1144, 0, 0, 0, 0, 0, 0, 1169, 0, 0, 907, 0, 0, 0, 0, 0, 0, 0, 1106, 0, 0, 0, 0, 0, 0, 1173, 0]) = true := by decide +kernel
theorem qk_147 : qmok (yX10_owedBy, cX10_owedBy, 7, some .int, 11, qc147) := qmE_ok qw_147 rfl qv_147
set_option maxRecDepth 100000 in
theorem qw_148 : znt lw_tbl 1164 = some (.code yX10_owedOf cX10_owedOf 4 (some .int)) := by rfl
set_option maxRecDepth 100000 in
theorem qv_148 : (qmG (fun _ => true) (zinA 60) (zinA 1163) (zinA 36) (yX10_owedOf, cX10_owedOf, 4, some .int, 11, qc148) && qfD yX10_owedOf.cls 4 cX10_owedOf (qall qc148) [0, 0, 0, 0, 0, 0, 0, 0, 0, 0, 0, 0, 0, 1165, 0, 0, 0, 0, 1153, 0, 0, 0, 0, 920, 0, 0, 921, 1173, 0]) = true := by decide +kernel
theorem qk_148 : qmok (yX10_owedOf, cX10_owedOf, 4, some .int, 11, qc148) := qmE_ok qw_148 rfl qv_148
set_option maxRecDepth 100000 in
theorem qw_149 : znt lw_tbl 1160 = some (.code yX10_owed cX10_owed 4 (some .int)) := by rfl
set_option maxRecDepth 100000 in
theorem qv_149 : (qmG (fun _ => true) (zinA 60) (zinA 1158) (zinA 1159) (yX10_owed, cX10_owed, 4, some .int, 11, qc149) && qfD yX10_owed.cls 4 cX10_owed (qall qc149) [0, 1114, 0, 0, 1103, 0, 0, 0, 0, 1051, 0, 0, 0, 0, 0, 1161, 0, 0, 0]) = true := by decide +kernel
theorem qk_149 : qmok (yX10_owed, cX10_owed, 4, some .int, 11, qc149) := qmE_ok qw_149 rfl qv_149
set_option maxRecDepth 100000 in
theorem qw_150 : znt lw_tbl 1183 = some (.code yX10_isOne cX10_isOne 1 (some .boolean)) := by rfl
set_option maxRecDepth 100000 in
theorem qv_150 : (qmG (fun _ => true) (zinA 60) (zinA 1182) (zinA 39) (yX10_isOne, cX10_isOne, 1, some .boolean, 11, qc150) && qfD yX10_isOne.cls 1 cX10_isOne (qall qc150) [0, 920, 1173, 0, 921, 1173, 0, 0, 0, 0, 0]) = true := by decide +kernel
theorem qk_150 : qmok (yX10_isOne, cX10_isOne, 1, some .boolean, 11, qc150) := qmE_ok qw_150 rfl qv_150
set_option maxRecDepth 100000 in
theorem qw_151 : znt lw_tbl 1179 = some (.code yX10_stands cX10_stands 3 (some .int)) := by rfl
set_option maxRecDepth 100000 in
theorem qv_151 : (qmG (fun _ => true) (zinA 60) (zinA 1177) (zinA 1178) (yX10_stands, cX10_stands, 3, some .int, 11, qc151) && qfD yX10_stands.cls 3 cX10_stands (qall qc151) [0, 1114, 0, 0, 1103, 0, 0, 0, 0, 0, 0, 1153, 0, 1180, 0, 0, 0, 0, 0]) = true := by decide +kernel
theorem qk_151 : qmok (yX10_stands, cX10_stands, 3, some .int, 11, qc151) := qmE_ok qw_151 rfl qv_151
set_option maxRecDepth 100000 in
theorem qw_152 : znt lw_tbl 1187 = some (.code yX10_span cX10_span 9 (some .int)) := by rfl
set_option maxRecDepth 100000 in
theorem qv_152 : (qmG (fun _ => true) (zinA 60) (zinA 1185) (zinA 1186) (yX10_span, cX10_span, 9, some .int, 11, qc152) && qfD yX10_span.cls 9 cX10_span (qall qc152) [0, 1114, 0, 0, 1103, 0, 0, 1117, 0, 0, 0, 0, 1051, 0, 0, 0, 0, 0, 0, 0, 1124, 0, 0, 0, 0, 0, 0, 0, 0, 0, 1132, 0, 915, 0, 0, 0, 0, 0, 915, 0, 0, 0, 0, 913, 0, 0, 0, 0, 0, 0, 911, 0, 0, 0, 0, 0, 912, 0, 0, 0, 0, 0, 915, 0, 0, 0, 0, 0, 0, 0, 915, 0, 0, 0, 0, 0, 0, 915, 0, 0, 0, 0, 0, 0, 0, 0, 0, 0, 0, 0, 0, 0, 0, 0, 0, 0, 0, 0, 0, 1173, 0, 0, 0, 0, 0, 0, 0, 0]) = true := by decide +kernel
theorem qk_152 : qmok (yX10_span, cX10_span, 9, some .int, 11, qc152) := qmE_ok qw_152 rfl qv_152
set_option maxRecDepth 100000 in
theorem qw_153 : znt lw_tbl 1206 = some (.code yX10_bitsIn cX10_bitsIn 3 (some .int)) := by rfl
set_option maxRecDepth 100000 in
theorem qv_153 : (qmG (fun _ => true) (zinA 60) (zinA 1205) (zinA 0) (yX10_bitsIn, cX10_bitsIn, 3, some .int, 0, qc153) && qfD yX10_bitsIn.cls 3 cX10_bitsIn (qall qc153) [0, 0, 0, 0, 0, 0, 0, 0, 0, 0, 0, 0, 0, 0, 0, 0, 0, 0, 0]) = true := by decide +kernel
theorem qk_153 : qmok (yX10_bitsIn, cX10_bitsIn, 3, some .int, 0, qc153) := qmE_ok qw_153 rfl qv_153
set_option maxRecDepth 100000 in
theorem qw_154 : znt lw_tbl 1199 = some (.code yX10_inSpans cX10_inSpans 5 (some .int)) := by rfl
set_option maxRecDepth 100000 in
theorem qv_154 : (qmG (fun _ => true) (zinA 60) (zinA 1198) (zinA 41) (yX10_inSpans, cX10_inSpans, 5, some .int, 11, qc154) && qfD yX10_inSpans.cls 5 cX10_inSpans (qall qc154) [0, 0, 0, 0, 0, 0, 0, 0, 0, 0, 0, 0, 1124, 0, 0, 0, 0, 0, 0, 0, 0, 0, 0, 0, 0, 0]) = true := by decide +kernel
theorem qk_154 : qmok (yX10_inSpans, cX10_inSpans, 5, some .int, 11, qc154) := qmE_ok qw_154 rfl qv_154
set_option maxRecDepth 100000 in
theorem qw_155 : znt lw_tbl 1203 = some (.code yX10_showing cX10_showing 7 (some .boolean)) := by rfl
set_option maxRecDepth 100000 in
theorem qv_155 : (qmG (fun _ => true) (zinA 60) (zinA 1202) (zinA 42) (yX10_showing, cX10_showing, 7, some .boolean, 11, qc155) && qfD yX10_showing.cls 7 cX10_showing (qall qc155) [0, 0, 0, 1132, 0, 0, 0, 0, 0, 0, 0, 0, 907, 0, 0, 0, 0, 0, 0, 0, 0, 0, 0, 0, 0, 0, 0, 0, 0, 0, 915, 0, 0, 0, 0, 0, 915, 0, 0, 0, 0, 0, 0, 0, 0, 0, 915, 0, 0, 0, 0, 0, 0, 0, 0, 0, 0, 1136, 0, 0, 0, 0, 0]) = true := by decide +kernel
theorem qk_155 : qmok (yX10_showing, cX10_showing, 7, some .boolean, 11, qc155) := qmE_ok qw_155 rfl qv_155
set_option maxRecDepth 100000 in
theorem qw_156 : znt lw_tbl 1195 = some (.code yX10_settling cX10_settling 6 (some .int)) := by rfl
set_option maxRecDepth 100000 in
theorem qv_156 : (qmG (fun _ => true) (zinA 60) (zinA 1194) (zinA 40) (yX10_settling, cX10_settling, 6, some .int, 11, qc156) && qfD yX10_settling.cls 6 cX10_settling (qall qc156) [0, 0, 0, 1196, 0, 0, 0, 0, 0, 1200, 0, 0, 0, 0, 0, 0, 0, 0, 0, 0, 0, 0, 0, 0, 0, 0, 0, 0, 0, 0, 1204, 0, 0, 0, 0, 0, 0, 1200, 0, 0, 1180, 0, 0, 0, 0, 0, 0, 0, 0, 0]) = true := by decide +kernel
theorem qk_156 : qmok (yX10_settling, cX10_settling, 6, some .int, 11, qc156) := qmE_ok qw_156 rfl qv_156
set_option maxRecDepth 100000 in
theorem qw_157 : znt lw_tbl 1191 = some (.code yX10_settles cX10_settles 5 (some .int)) := by rfl
set_option maxRecDepth 100000 in
theorem qv_157 : (qmG (fun _ => true) (zinA 60) (zinA 1189) (zinA 1190) (yX10_settles, cX10_settles, 5, some .int, 11, qc157) && qfD yX10_settles.cls 5 cX10_settles (qall qc157) [0, 1114, 0, 0, 1103, 0, 0, 0, 0, 1051, 0, 0, 0, 0, 0, 0, 1192, 0, 0, 0, 0, 0, 0, 0, 0, 0, 0, 1204, 0]) = true := by decide +kernel
theorem qk_157 : qmok (yX10_settles, cX10_settles, 5, some .int, 11, qc157) := qmE_ok qw_157 rfl qv_157
set_option maxRecDepth 100000 in
theorem qw_158 : znt lw_tbl 1210 = some (.code yX10_tells cX10_tells 9 (some .int)) := by rfl
set_option maxRecDepth 100000 in
theorem qv_158 : (qmG (fun _ => true) (zinA 60) (zinA 1208) (zinA 1209) (yX10_tells, cX10_tells, 9, some .int, 11, qc158) && qfD yX10_tells.cls 9 cX10_tells (qall qc158) [0, 1114, 0, 0, 1103, 0, 0, 0, 0, 0, 0, 0, 0, 0, 0, 0, 0, 0, 0, 0, 1132, 0, 0, 0, 0, 1124, 0, 0, 0, 915, 0, 0, 0, 0, 0, 0, 0, 0, 0, 0, 0, 0, 915, 0, 0, 0, 0, 0, 0, 1136, 0, 0, 921, 1173, 0, 920, 1173, 0, 0, 0, 0, 0, 0, 0, 0, 0, 0, 0, 0, 0, 0, 0, 0, 0, 0, 0, 0, 0, 0, 0, 0, 0]) = true := by decide +kernel
theorem qk_158 : qmok (yX10_tells, cX10_tells, 9, some .int, 11, qc158) := qmE_ok qw_158 rfl qv_158
set_option maxRecDepth 100000 in
theorem qw_159 : znt lw_tbl 1230 = some (.code yX10_isDebt cX10_isDebt 2 (some .boolean)) := by rfl
set_option maxRecDepth 100000 in
theorem qv_159 : (qmG (fun _ => true) (zinA 60) (zinA 1229) (zinA 44) (yX10_isDebt, cX10_isDebt, 2, some .boolean, 11, qc159) && qfD yX10_isDebt.cls 2 cX10_isDebt (qall qc159) [0, 0, 0, 923, 0, 0, 0, 0, 1051, 0]) = true := by decide +kernel
theorem qk_159 : qmok (yX10_isDebt, cX10_isDebt, 2, some .boolean, 11, qc159) := qmE_ok qw_159 rfl qv_159
set_option maxRecDepth 100000 in
theorem qw_160 : znt lw_tbl 1214 = some (.code yX10_debt cX10_debt 5 (some .int)) := by rfl
set_option maxRecDepth 100000 in
theorem qv_160 : (qmG (fun _ => true) (zinA 60) (zinA 1212) (zinA 1213) (yX10_debt, cX10_debt, 5, some .int, 11, qc160) && qfD yX10_debt.cls 5 cX10_debt (qall qc160) [0, 1114, 0, 0, 0, 0, 1051, 0, 0, 0, 0, 0, 0, 892, 0, 1161, 0, 0, 0, 0, 0, 0, 923, 0, 0, 0, 0, 0, 0, 0, 923, 0, 0, 0, 0, 928, 0, 0, 0, 0, 929, 0, 0, 0, 0, 930, 0, 0, 0, 0, 931, 0, 0, 0, 0, 932, 0, 0, 0, 0, 933, 0, 0, 892, 0, 0, 934, 0, 0, 0, 0, 935, 0, 0, 0, 0, 923, 0, 0, 0, 0, 0, 0, 0, 0]) = true := by decide +kernel
theorem qk_160 : qmok (yX10_debt, cX10_debt, 5, some .int, 11, qc160) := qmE_ok qw_160 rfl qv_160
set_option maxRecDepth 100000 in
theorem qw_161 : znt lw_tbl 1222 = some (.code yX10_placeOf cX10_placeOf 4 (some .int)) := by rfl
set_option maxRecDepth 100000 in
theorem qv_161 : (qmG (fun _ => true) (zinA 60) (zinA 1221) (zinA 43) (yX10_placeOf, cX10_placeOf, 4, some .int, 11, qc161) && qfD yX10_placeOf.cls 4 cX10_placeOf (qall qc161) [0, 940, 0, 0, 0, 0, 0, 0, 0, 0, 0, 0, 0]) = true := by decide +kernel
theorem qk_161 : qmok (yX10_placeOf, cX10_placeOf, 4, some .int, 11, qc161) := qmE_ok qw_161 rfl qv_161
set_option maxRecDepth 100000 in
theorem qw_162 : znt lw_tbl 1218 = some (.code yX10_place cX10_place 6 (some .int)) := by rfl
set_option maxRecDepth 100000 in
theorem qv_162 : (qmG (fun _ => true) (zinA 60) (zinA 1216) (zinA 1217) (yX10_place, cX10_place, 6, some .int, 11, qc162) && qfD yX10_place.cls 6 cX10_place (qall qc162) [0, 1114, 0, 0, 0, 0, 1051, 0, 0, 0, 0, 1051, 0, 0, 0, 0, 0, 0, 0, 892, 1219, 0, 0, 892, 0, 0, 0, 0, 0, 940, 0, 0, 0, 0, 0, 0, 0, 0, 0, 0, 0, 0, 0, 0, 0]) = true := by decide +kernel
theorem qk_162 : qmok (yX10_place, cX10_place, 6, some .int, 11, qc162) := qmE_ok qw_162 rfl qv_162
set_option maxRecDepth 100000 in
theorem qw_163 : znt lw_tbl 1226 = some (.code yX10_letter cX10_letter 3 (some .int)) := by rfl
set_option maxRecDepth 100000 in
theorem qv_163 : (qmG (fun _ => true) (zinA 60) (zinA 1224) (zinA 1225) (yX10_letter, cX10_letter, 3, some .int, 11, qc163) && qfD yX10_letter.cls 3 cX10_letter (qall qc163) [0, 0, 1227, 0, 0, 0, 0, 924, 0, 0, 0, 0, 0, 0, 0, 924, 0, 0, 0, 0, 936, 0, 0, 0, 0, 937, 0, 0, 892, 0, 0, 938, 0, 0, 0, 928, 0, 0, 0, 0, 892, 1219, 0, 0, 924, 0, 0, 0, 0, 0, 0, 0, 0]) = true := by decide +kernel
theorem qk_163 : qmok (yX10_letter, cX10_letter, 3, some .int, 11, qc163) := qmE_ok qw_163 rfl qv_163
set_option maxRecDepth 100000 in
theorem qw_164 : znt lw_tbl 1238 = some (.code yX10_stateOf cX10_stateOf 3 (some .int)) := by rfl
set_option maxRecDepth 100000 in
theorem qv_164 : (qmG (fun _ => true) (zinA 60) (zinA 1237) (zinA 45) (yX10_stateOf, cX10_stateOf, 3, some .int, 11, qc164) && qfD yX10_stateOf.cls 3 cX10_stateOf (qall qc164) [0, 937, 0, 0, 0, 0, 0, 0, 0, 892, 0, 0, 0, 0, 0, 928, 0, 936, 0, 0, 0, 0, 0, 1219, 0, 938, 0, 0, 0, 0, 0, 0, 0]) = true := by decide +kernel
theorem qk_164 : qmok (yX10_stateOf, cX10_stateOf, 3, some .int, 11, qc164) := qmE_ok qw_164 rfl qv_164
set_option maxRecDepth 100000 in
theorem qw_165 : znt lw_tbl 1234 = some (.code yX10_post cX10_post 3 (some .int)) := by rfl
set_option maxRecDepth 100000 in
theorem qv_165 : (qmG (fun _ => true) (zinA 60) (zinA 1232) (zinA 1233) (yX10_post, cX10_post, 3, some .int, 11, qc165) && qfD yX10_post.cls 3 cX10_post (qall qc165) [0, 0, 0, 924, 0, 0, 0, 0, 1051, 0, 0, 0, 0, 1051, 0, 0, 0, 0, 0, 0, 936, 0, 0, 0, 0, 0, 0, 0, 937, 0, 0, 0, 0, 0, 0, 0, 938, 0, 0, 0, 0, 0, 1235, 0]) = true := by decide +kernel
theorem qk_165 : qmok (yX10_post, cX10_post, 3, some .int, 11, qc165) := qmE_ok qw_165 rfl qv_165
set_option maxRecDepth 100000 in
theorem qw_166 : znt lw_tbl 1246 = some (.code yX10_mayHold cX10_mayHold 4 (some .boolean)) := by rfl
set_option maxRecDepth 100000 in
theorem qv_166 : (qmG (fun _ => true) (zinA 60) (zinA 1245) (zinA 46) (yX10_mayHold, cX10_mayHold, 4, some .boolean, 11, qc166) && qfD yX10_mayHold.cls 4 cX10_mayHold (qall qc166) [0, 0, 0, 0, 0, 0, 924, 0, 0, 0, 0, 0, 0, 936, 0, 0, 0, 0, 0, 937, 0, 0, 0, 0, 0, 892, 0, 0, 0, 1235, 0, 0, 0, 0, 0, 0, 0, 0, 0, 0]) = true := by decide +kernel
theorem qk_166 : qmok (yX10_mayHold, cX10_mayHold, 4, some .boolean, 11, qc166) := qmE_ok qw_166 rfl qv_166
set_option maxRecDepth 100000 in
theorem qw_167 : znt lw_tbl 1242 = some (.code yX10_hold cX10_hold 9 (some .int)) := by rfl
set_option maxRecDepth 100000 in
theorem qv_167 : (qmG (fun _ => true) (zinA 60) (zinA 1240) (zinA 1241) (yX10_hold, cX10_hold, 9, some .int, 11, qc167) && qfD yX10_hold.cls 9 cX10_hold (qall qc167) [0, 1114, 0, 0, 0, 0, 1051, 0, 0, 0, 0, 1051, 0, 0, 0, 0, 1051, 0, 0, 0, 0, 0, 0, 0, 0, 0, 0, 0, 0, 0, 0, 0, 923, 0, 0, 0, 0, 928, 0, 0, 0, 0, 0, 0, 1243, 0, 0, 0, 930, 0, 0, 0, 0, 0, 0, 930, 0, 0, 0, 0, 930, 0, 0, 0, 0, 0, 0, 0, 931, 0, 0, 0, 0, 0, 0, 0, 934, 0, 0, 0, 0, 0, 0, 0, 0, 0, 0, 0, 0, 0, 0, 0, 0, 0, 0, 0, 0, 0, 0]) = true := by decide +kernel
theorem qk_167 : qmok (yX10_hold, cX10_hold, 9, some .int, 11, qc167) := qmE_ok qw_167 rfl qv_167
set_option maxRecDepth 100000 in
theorem qw_168 : znt lw_tbl 1250 = some (.code yX10_set cX10_set 3 (some .int)) := by rfl
set_option maxRecDepth 100000 in
theorem qv_168 : (qmG (fun _ => true) (zinA 60) (zinA 1248) (zinA 1249) (yX10_set, cX10_set, 3, some .int, 11, qc168) && qfD yX10_set.cls 3 cX10_set (qall qc168) [0, 0, 1227, 0, 0, 0, 0, 935, 0, 0, 0, 0, 0, 0, 0, 931, 0, 0, 0, 0, 932, 0, 0, 930, 0, 0, 0, 0, 0, 0, 930, 0, 0, 0, 0, 931, 0, 0, 0, 0, 935, 0, 0, 0, 0, 926, 0, 0, 0, 0, 934, 0, 0, 0, 0, 0, 0]) = true := by decide +kernel
theorem qk_168 : qmok (yX10_set, cX10_set, 3, some .int, 11, qc168) := qmE_ok qw_168 rfl qv_168
