set_option maxRecDepth 100000 in
theorem qw_169 : znt lw_tbl 1254 = some (.code yX10_about cX10_about 3 (some .int)) := by rfl
set_option maxRecDepth 100000 in
theorem qv_169 : (qmG (fun _ => true) (zinA 60) (zinA 1252) (zinA 1253) (yX10_about, cX10_about, 3, some .int, 11, qc169) && qfD yX10_about.cls 3 cX10_about (qall qc169) [0, 0, 1227, 0, 0, 0, 0, 0, 0, 928, 0, 0, 0, 0, 929, 0, 0, 0, 0, 930, 0, 0, 0, 0, 931, 0, 0, 0, 0, 932, 0, 0, 0, 0, 933, 0, 0, 0, 0, 934, 0, 0, 0, 0, 0]) = true := by decide +kernel
theorem qk_169 : qmok (yX10_about, cX10_about, 3, some .int, 11, qc169) := qmE_ok qw_169 rfl qv_169
set_option maxRecDepth 100000 in
theorem qw_170 : znt lw_tbl 1258 = some (.code yX10_right cX10_right 3 (some .int)) := by rfl
set_option maxRecDepth 100000 in
theorem qv_170 : (qmG (fun _ => true) (zinA 60) (zinA 1256) (zinA 1257) (yX10_right, cX10_right, 3, some .int, 11, qc170) && qfD yX10_right.cls 3 cX10_right (qall qc170) [0, 0, 1227, 0, 0, 1103, 0, 0, 0, 0, 0, 928, 0, 0, 0, 1153, 0, 929, 0, 0, 0, 921, 1173, 0, 0, 0, 0, 929, 0, 0, 0, 920, 1173, 0, 0, 0, 0, 0]) = true := by decide +kernel
theorem qk_170 : qmok (yX10_right, cX10_right, 3, some .int, 11, qc170) := qmE_ok qw_170 rfl qv_170
set_option maxRecDepth 100000 in
theorem qw_171 : znt lw_tbl 1266 = some (.code yX10_heardFrom cX10_heardFrom 4 (some .int)) := by rfl
set_option maxRecDepth 100000 in
theorem qv_171 : (qmG (fun _ => true) (zinA 60) (zinA 1265) (zinA 47) (yX10_heardFrom, cX10_heardFrom, 4, some .int, 11, qc171) && qfD yX10_heardFrom.cls 4 cX10_heardFrom (qall qc171) [0, 0, 0, 0, 0, 0, 0, 0, 925, 0, 0, 0, 0, 0, 939, 0, 0, 0, 0, 0, 0, 0, 0, 0, 939, 0, 0, 0, 0, 0, 0, 0, 0, 0, 0]) = true := by decide +kernel
theorem qk_171 : qmok (yX10_heardFrom, cX10_heardFrom, 4, some .int, 11, qc171) := qmE_ok qw_171 rfl qv_171
set_option maxRecDepth 100000 in
theorem qw_172 : znt lw_tbl 1262 = some (.code yX10_call cX10_call 5 (some .int)) := by rfl
set_option maxRecDepth 100000 in
theorem qv_172 : (qmG (fun _ => true) (zinA 60) (zinA 1260) (zinA 1261) (yX10_call, cX10_call, 5, some .int, 11, qc172) && qfD yX10_call.cls 5 cX10_call (qall qc172) [0, 1114, 0, 0, 0, 0, 1051, 0, 0, 0, 0, 925, 0, 0, 0, 0, 0, 0, 0, 939, 0, 925, 0, 0, 0, 0, 0, 925, 0, 0, 0, 0, 0, 0, 0, 0, 0, 0, 1263, 0, 0, 0, 925, 0, 0, 0, 0, 0, 0, 1263, 0, 0, 0, 0, 0, 0]) = true := by decide +kernel
theorem qk_172 : qmok (yX10_call, cX10_call, 5, some .int, 11, qc172) := qmE_ok qw_172 rfl qv_172
set_option maxRecDepth 100000 in
theorem qw_173 : znt lw_tbl 1270 = some (.code yX10_day cX10_day 3 (some .int)) := by rfl
set_option maxRecDepth 100000 in
theorem qv_173 : (qmG (fun _ => true) (zinA 60) (zinA 1268) (zinA 1269) (yX10_day, cX10_day, 3, some .int, 11, qc173) && qfD yX10_day.cls 3 cX10_day (qall qc173) [0, 892, 0, 0, 0, 0, 0, 0, 1263, 0, 0, 0, 0, 0, 925, 0, 0, 0, 0, 939, 0, 0, 0, 0, 939, 0, 0, 0, 0, 0, 0, 925, 0, 0, 0, 0, 0, 0, 0, 0, 892, 0, 0, 892, 0, 0]) = true := by decide +kernel
theorem qk_173 : qmok (yX10_day, cX10_day, 3, some .int, 11, qc173) := qmE_ok qw_173 rfl qv_173
set_option maxRecDepth 100000 in
theorem qw_174 : znt lw_tbl 1274 = some (.code yX10_weight cX10_weight 9 (some .int)) := by rfl
set_option maxRecDepth 100000 in
theorem qv_174 : (qmG (fun _ => true) (zinA 60) (zinA 1272) (zinA 1273) (yX10_weight, cX10_weight, 9, some .int, 11, qc174) && qfD yX10_weight.cls 9 cX10_weight (qall qc174) [0, 0, 0, 1051, 0, 0, 1114, 0, 0, 1117, 0, 0, 0, 0, 0, 0, 0, 892, 1124, 0, 0, 0, 0, 0, 0, 0, 0, 0, 0, 0, 0, 0, 0, 0, 913, 0, 0, 0, 0, 0, 0, 0, 0, 0, 0, 0, 0, 0, 0, 0, 892, 1144, 0, 0, 0, 0, 1169, 0, 892, 1106, 0, 1173, 0, 0, 0, 908, 0, 0, 0, 0, 0, 909, 0, 0, 0, 892, 0, 0, 0, 0, 0, 0, 0, 0, 0, 891, 0, 0, 891, 0, 0, 0, 0, 891, 1275, 0, 891, 0, 0, 906, 0, 0, 0, 0, 0, 0, 891, 1276, 0, 891, 0, 0, 0, 0, 891, 1277, 0, 891, 0, 0, 0, 0, 0, 0, 891, 1278, 0, 891, 0, 0, 0, 0, 891, 1279, 0, 891, 0, 0, 0, 0, 0, 0, 891, 1280, 0, 891, 0, 0, 0, 0, 0, 0, 0, 0, 891, 1281, 0, 891, 0, 0, 0, 1173, 0]) = true := by decide +kernel
theorem qk_174 : qmok (yX10_weight, cX10_weight, 9, some .int, 11, qc174) := qmE_ok qw_174 rfl qv_174
set_option maxRecDepth 100000 in
theorem qw_175 : znt lw_tbl 1292 = some (.code yX10_move cX10_move 5 none) := by rfl
set_option maxRecDepth 100000 in
theorem qv_175 : (qmG (fun _ => true) (zinA 60) (zinA 1291) (zinA 0) (yX10_move, cX10_move, 5, none, 0, qc175) && qfD yX10_move.cls 5 cX10_move (qall qc175) [0, 0, 0, 0, 0, 0, 0, 0, 0, 0, 0, 0, 0, 0, 0, 0, 0, 0, 0, 0, 0, 0]) = true := by decide +kernel
theorem qk_175 : qmok (yX10_move, cX10_move, 5, none, 0, qc175) := qmE_ok qw_175 rfl qv_175
set_option maxRecDepth 100000 in
theorem qw_176 : znt lw_tbl 1289 = some (.code yX10_moveAll cX10_moveAll 3 none) := by rfl
set_option maxRecDepth 100000 in
theorem qv_176 : (qmG (fun _ => true) (zinA 60) (zinA 1288) (zinA 48) (yX10_moveAll, cX10_moveAll, 3, none, 11, qc176) && qfD yX10_moveAll.cls 3 cX10_moveAll (qall qc176) [0, 923, 0, 0, 0, 1290, 0, 924, 0, 0, 0, 1290, 0, 925, 0, 0, 0, 1290, 0, 926, 0, 0, 0, 1290, 0, 928, 0, 0, 0, 1290, 0, 929, 0, 0, 0, 1290, 0, 930, 0, 0, 0, 1290, 0, 931, 0, 0, 0, 1290, 0, 932, 0, 0, 0, 1290, 0, 933, 0, 0, 0, 1290, 0, 934, 0, 0, 0, 1290, 0, 935, 0, 0, 0, 1290, 0, 936, 0, 0, 0, 1290, 0, 937, 0, 0, 0, 1290, 0, 938, 0, 0, 0, 1290, 0, 939, 0, 0, 0, 1290, 0]) = true := by decide +kernel
theorem qk_176 : qmok (yX10_moveAll, cX10_moveAll, 3, none, 11, qc176) := qmE_ok qw_176 rfl qv_176
set_option maxRecDepth 100000 in
theorem qw_177 : znt lw_tbl 1285 = some (.code yX10_keep cX10_keep 2 (some .int)) := by rfl
set_option maxRecDepth 100000 in
theorem qv_177 : (qmG (fun _ => true) (zinA 60) (zinA 1283) (zinA 1284) (yX10_keep, cX10_keep, 2, some .int, 11, qc177) && qfD yX10_keep.cls 2 cX10_keep (qall qc177) [0, 0, 0, 1051, 0, 0, 0, 0, 0, 0, 0, 0, 1286, 0, 927, 0, 0, 0, 0, 892, 0, 0, 941, 0, 0, 0, 0, 892, 0]) = true := by decide +kernel
theorem qk_177 : qmok (yX10_keep, cX10_keep, 2, some .int, 11, qc177) := qmE_ok qw_177 rfl qv_177
set_option maxRecDepth 100000 in
theorem qw_178 : znt lw_tbl 1296 = some (.code yX10_back cX10_back 2 (some .int)) := by rfl
set_option maxRecDepth 100000 in
theorem qv_178 : (qmG (fun _ => true) (zinA 60) (zinA 1294) (zinA 1295) (yX10_back, cX10_back, 2, some .int, 11, qc178) && qfD yX10_back.cls 2 cX10_back (qall qc178) [0, 0, 0, 1051, 0, 0, 0, 0, 941, 0, 0, 0, 0, 0, 0, 0, 0, 0, 0, 1286, 0, 0, 927, 0, 0, 0, 0, 892, 0, 892, 0]) = true := by decide +kernel
theorem qk_178 : qmok (yX10_back, cX10_back, 2, some .int, 11, qc178) := qmE_ok qw_178 rfl qv_178
set_option maxRecDepth 100000 in
theorem qw_179 : znt lw_tbl 1300 = some (.code yX10_count cX10_count 4 (some .int)) := by rfl
set_option maxRecDepth 100000 in
theorem qv_179 : (qmG (fun _ => true) (zinA 60) (zinA 1298) (zinA 1299) (yX10_count, cX10_count, 4, some .int, 11, qc179) && qfD yX10_count.cls 4 cX10_count (qall qc179) [0, 0, 0, 0, 0, 895, 0, 0, 0, 0, 0, 0, 0, 0, 910, 0, 0, 0, 0, 0, 0, 0, 0, 0, 0, 0, 0, 0, 0, 0, 908, 0, 0, 0, 0, 0, 0, 0, 0, 0, 0, 0, 0, 0, 0, 923, 0, 0, 0, 0, 924, 0, 0, 0, 0, 925, 0, 0, 0, 0, 892, 0, 0, 894, 0, 0, 0, 0, 0, 923, 0, 0, 0, 0, 0, 931, 0, 0, 0, 0, 0, 0, 0, 0, 0, 0, 0, 0, 923, 0, 0, 0, 0, 0, 934, 0, 0, 0, 0, 0, 0, 0, 0, 0, 926, 0, 0, 0, 0, 0]) = true := by decide +kernel
theorem qk_179 : qmok (yX10_count, cX10_count, 4, some .int, 11, qc179) := qmE_ok qw_179 rfl qv_179
set_option maxRecDepth 100000 in
theorem qw_180 : znt lw_tbl 1304 = some (.code yX10_trace cX10_trace 1 (some .long)) := by rfl
set_option maxRecDepth 100000 in
theorem qv_180 : (qmG (fun _ => true) (zinA 60) (zinA 1302) (zinA 1303) (yX10_trace, cX10_trace, 1, some .long, 11, qc180) && qfD yX10_trace.cls 1 cX10_trace (qall qc180) [0, 891, 0]) = true := by decide +kernel
theorem qk_180 : qmok (yX10_trace, cX10_trace, 1, some .long, 11, qc180) := qmE_ok qw_180 rfl qv_180
set_option maxRecDepth 100000 in
theorem qw_181 : znt lw_tbl 687 = some (.code yJ6_bitCount_0f7a4 cJ6_bitCount_0f7a4 1 (some .int)) := by rfl
set_option maxRecDepth 100000 in
theorem qv_181 : (qmG (fun _ => true) (zinA 67) (zinA 686) (zinA 0) (yJ6_bitCount_0f7a4, cJ6_bitCount_0f7a4, 1, some .int, 0, qc181) && qfD yJ6_bitCount_0f7a4.cls 1 cJ6_bitCount_0f7a4 (qall qc181) [0, 0, 0, 0, 688, 0, 0, 0, 0, 689, 0, 0, 0, 0, 689, 0, 0, 0, 0, 0, 0, 0, 0, 690, 0, 0, 0, 0, 0, 0, 0, 0, 0, 0, 0, 0, 0, 0, 0, 0, 0, 0]) = true := by decide +kernel
theorem qk_181 : qmok (yJ6_bitCount_0f7a4, cJ6_bitCount_0f7a4, 1, some .int, 0, qc181) := qmE_ok qw_181 rfl qv_181
set_option maxRecDepth 100000 in
theorem qw_182 : znt lw_tbl 687 = some (.code yJ6_bitCount_0f7a4 cJ6_bitCount_0f7a4 1 (some .int)) := by rfl
set_option maxRecDepth 100000 in
theorem qv_182 : (qmG (fun _ => true) (zinA 67) (zinA 686) (zinA 0) (yJ6_bitCount_0f7a4, cJ6_bitCount_0f7a4, 1, some .int, 0, qc182) && qfD yJ6_bitCount_0f7a4.cls 1 cJ6_bitCount_0f7a4 (qall qc182) [0, 0, 0, 0, 688, 0, 0, 0, 0, 689, 0, 0, 0, 0, 689, 0, 0, 0, 0, 0, 0, 0, 0, 690, 0, 0, 0, 0, 0, 0, 0, 0, 0, 0, 0, 0, 0, 0, 0, 0, 0, 0]) = true := by decide +kernel
theorem qk_182 : qmok (yJ6_bitCount_0f7a4, cJ6_bitCount_0f7a4, 1, some .int, 0, qc182) := qmE_ok qw_182 rfl qv_182
set_option maxRecDepth 100000 in
theorem qw_183 : znt lw_tbl 431 = some (.code yJ0_length_8abf5 cJ0_length_8abf5 1 (some .int)) := by rfl
set_option maxRecDepth 100000 in
theorem qv_183 : (qmG (fun _ => true) (zinA 61) (zinA 429) (zinA 430) (yJ0_length_8abf5, cJ0_length_8abf5, 1, some .int, 21, qc183) && qfD yJ0_length_8abf5.cls 1 cJ0_length_8abf5 (qall qc183) [0, 1306, 0, 0, 432, 0, 0]) = true := by decide +kernel
theorem qk_183 : qmok (yJ0_length_8abf5, cJ0_length_8abf5, 1, some .int, 21, qc183) := qmE_ok qw_183 rfl qv_183
set_option maxRecDepth 100000 in
theorem qw_184 : znt lw_tbl 441 = some (.code yJ0_charAt_5068e cJ0_charAt_5068e 2 (some .char)) := by rfl
set_option maxRecDepth 100000 in
theorem qv_184 : (qmG (fun _ => true) (zinA 61) (zinA 439) (zinA 440) (yJ0_charAt_5068e, cJ0_charAt_5068e, 2, some .char, 21, qc184) && qfD yJ0_charAt_5068e.cls 2 cJ0_charAt_5068e (qall qc184) [0, 442, 0, 0, 1306, 0, 446, 0]) = true := by decide +kernel
theorem qk_184 : qmok (yJ0_charAt_5068e, cJ0_charAt_5068e, 2, some .char, 21, qc184) := qmE_ok qw_184 rfl qv_184
set_option maxRecDepth 100000 in
theorem qw_185 : znt lw_tbl 435 = some (.code yJ0_coder_7d493 cJ0_coder_7d493 1 (some .byte)) := by rfl
set_option maxRecDepth 100000 in
theorem qv_185 : (qmG (fun _ => true) (zinA 61) (zinA 433) (zinA 434) (yJ0_coder_7d493, cJ0_coder_7d493, 1, some .byte, 21, qc185) && qfD yJ0_coder_7d493.cls 1 cJ0_coder_7d493 (qall qc185) [436, 0, 0, 1307, 0, 0, 0]) = true := by decide +kernel
theorem qk_185 : qmok (yJ0_coder_7d493, cJ0_coder_7d493, 1, some .byte, 21, qc185) := qmE_ok qw_185 rfl qv_185
set_option maxRecDepth 100000 in
theorem qw_186 : znt lw_tbl 445 = some (.code yJ0_isLatin1_aae02 cJ0_isLatin1_aae02 1 (some .boolean)) := by rfl
set_option maxRecDepth 100000 in
theorem qv_186 : (qmG (fun _ => true) (zinA 61) (zinA 443) (zinA 444) (yJ0_isLatin1_aae02, cJ0_isLatin1_aae02, 1, some .boolean, 21, qc186) && qfD yJ0_isLatin1_aae02.cls 1 cJ0_isLatin1_aae02 (qall qc186) [436, 0, 0, 1307, 0, 0, 0, 0, 0]) = true := by decide +kernel
theorem qk_186 : qmok (yJ0_isLatin1_aae02, cJ0_isLatin1_aae02, 1, some .boolean, 21, qc186) := qmE_ok qw_186 rfl qv_186
set_option maxRecDepth 100000 in
theorem qw_187 : znt lw_tbl 451 = some (.code yJ0_checkIndex_df160 cJ0_checkIndex_df160 2 none) := by rfl
set_option maxRecDepth 100000 in
theorem qv_187 : (qmG (fun _ => true) (zinA 61) (zinA 450) (zinA 0) (yJ0_checkIndex_df160, cJ0_checkIndex_df160, 2, none, 0, qc187) && qfD yJ0_checkIndex_df160.cls 2 cJ0_checkIndex_df160 (qall qc187) [0, 0, 452, 454, 0, 0]) = true := by decide +kernel
theorem qk_187 : qmok (yJ0_checkIndex_df160, cJ0_checkIndex_df160, 2, none, 0, qc187) := qmE_ok qw_187 rfl qv_187
set_option maxRecDepth 100000 in
theorem qw_188 : znt lw_tbl 448 = some (.code yJ1_charAt_3b067 cJ1_charAt_3b067 2 (some .char)) := by rfl
set_option maxRecDepth 100000 in
theorem qv_188 : (qmG (fun _ => true) (zinA 62) (zinA 447) (zinA 0) (yJ1_charAt_3b067, cJ1_charAt_3b067, 2, some .char, 0, qc188) && qfD yJ1_charAt_3b067.cls 2 cJ1_charAt_3b067 (qall qc188) [0, 0, 0, 449, 0, 0, 0, 0, 0, 0, 0]) = true := by decide +kernel
theorem qk_188 : qmok (yJ1_charAt_3b067, cJ1_charAt_3b067, 2, some .char, 0, qc188) := qmE_ok qw_188 rfl qv_188
set_option maxRecDepth 100000 in
theorem qw_189 : znt lw_tbl 456 = some (.code yJ3_checkIndex_8e157 cJ3_checkIndex_8e157 3 (some .int)) := by rfl
set_option maxRecDepth 100000 in
theorem qv_189 : (qmG (fun _ => true) (zinA 63) (zinA 455) (zinA 0) (yJ3_checkIndex_8e157, cJ3_checkIndex_8e157, 3, some .int, 0, qc189) && qfD yJ3_checkIndex_8e157.cls 3 cJ3_checkIndex_8e157 (qall qc189) [0, 0, 0, 0, 0, 0, 0, 0, 0, 0]) = true := by decide +kernel
theorem qk_189 : qmok (yJ3_checkIndex_8e157, cJ3_checkIndex_8e157, 3, some .int, 0, qc189) := qmE_ok qw_189 rfl qv_189
