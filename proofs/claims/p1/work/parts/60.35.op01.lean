set_option maxRecDepth 100000 in
theorem op_3_150 : cAll 3 [] 901 [(5, 0)] [(3, 3), (0, 3), (12, 12), cX, cX] = true := by decide +kernel
set_option maxRecDepth 100000 in
theorem op_3_151 : cAll 3 [] 915 [(5, 0)] [(3, 3), (0, 3), (13, 13), cX, cX] = true := by decide +kernel
set_option maxRecDepth 100000 in
theorem op_3_152 : cAll 3 [] 929 [(5, 0)] [(3, 3), (0, 3), (14, 14), cX, cX] = true := by decide +kernel
set_option maxRecDepth 100000 in
theorem op_3_153 : cAll 3 [] 943 [(5, 0)] [(3, 3), (0, 3), (15, 15), cX, cX] = true := by decide +kernel
set_option maxRecDepth 100000 in
theorem op_3_154 : cAll 3 [] 957 [(5, 0)] [(3, 3), (0, 3), (16, 16), cX, cX] = true := by decide +kernel
set_option maxRecDepth 100000 in
theorem op_3_155 : cAll 3 [] 971 [(5, 0)] [(3, 3), (0, 3), (17, 17), cX, cX] = true := by decide +kernel
set_option maxRecDepth 100000 in
theorem op_3_156 : cAll 3 [] 985 [(5, 0)] [(3, 3), (0, 3), (18, 18), cX, cX] = true := by decide +kernel
set_option maxRecDepth 100000 in
theorem op_3_157 : cAll 3 [] 999 [(5, 0)] [(3, 3), (0, 3), (19, 19), cX, cX] = true := by decide +kernel
set_option maxRecDepth 100000 in
theorem op_3_158 : cAll 3 [] 1013 [(5, 0)] [(3, 3), (0, 3), (20, 20), cX, cX] = true := by decide +kernel
set_option maxRecDepth 100000 in
theorem op_3_159 : cAll 3 [] 1027 [(5, 0)] [(3, 3), (0, 3), (21, 21), cX, cX] = true := by decide +kernel
set_option maxRecDepth 100000 in
theorem op_3_160 : cAll 3 [] 1041 [(5, 0)] [(3, 3), (0, 3), (22, 22), cX, cX] = true := by decide +kernel
set_option maxRecDepth 100000 in
theorem op_3_161 : cAll 3 [] 1055 [(5, 0)] [(3, 3), (0, 3), (23, 23), cX, cX] = true := by decide +kernel
set_option maxRecDepth 100000 in
theorem op_3_162 : cAll 3 [] 1069 [(5, 0)] [(3, 3), (0, 3), (24, 24), cX, cX] = true := by decide +kernel
set_option maxRecDepth 100000 in
theorem op_3_163 : cAll 3 [] 1083 [(5, 0)] [(3, 3), (0, 3), (25, 25), cX, cX] = true := by decide +kernel
set_option maxRecDepth 100000 in
theorem op_3_164 : cAll 3 [] 1097 [(5, 0)] [(3, 3), (0, 3), (26, 26), cX, cX] = true := by decide +kernel
set_option maxRecDepth 100000 in
theorem op_3_165 : cAll 3 [] 1111 [(5, 0)] [(3, 3), (0, 3), (27, 27), cX, cX] = true := by decide +kernel
set_option maxRecDepth 100000 in
theorem op_3_166 : cAll 3 [] 1125 [(5, 0)] [(3, 3), (0, 3), (28, 28), cX, cX] = true := by decide +kernel
set_option maxRecDepth 100000 in
theorem op_3_167 : cAll 3 [] 1139 [(5, 0)] [(3, 3), (0, 3), (29, 29), cX, cX] = true := by decide +kernel
set_option maxRecDepth 100000 in
theorem op_3_168 : cAll 3 [] 1153 [(5, 0)] [(3, 3), (0, 3), (30, 30), cX, cX] = true := by decide +kernel
set_option maxRecDepth 100000 in
theorem op_3_169 : cAll 3 [] 1167 [(5, 0)] [(3, 3), (0, 3), (31, 31), cX, cX] = true := by decide +kernel
set_option maxRecDepth 100000 in
theorem op_3_170 : cAll 3 [] 1181 [(5, 0)] [(3, 3), (0, 3), (32, 32), cX, cX] = true := by decide +kernel
set_option maxRecDepth 100000 in
theorem op_3_171 : cAll 3 [] 1195 [(5, 0)] [(3, 3), (0, 3), (33, 33), cX, cX] = true := by decide +kernel
set_option maxRecDepth 100000 in
theorem op_3_172 : cAll 3 [] 1209 [(5, 0)] [(3, 3), (0, 3), (34, 34), cX, cX] = true := by decide +kernel
set_option maxRecDepth 100000 in
theorem op_3_173 : cAll 3 [] 1223 [(5, 0)] [(3, 3), (0, 3), (35, 35), cX, cX] = true := by decide +kernel
set_option maxRecDepth 100000 in
theorem op_3_174 : cAll 3 [] 1237 [(5, 0)] [(3, 3), (0, 3), (36, 36), cX, cX] = true := by decide +kernel
set_option maxRecDepth 100000 in
theorem op_3_175 : cAll 3 [] 1251 [(5, 0)] [(3, 3), (0, 3), (37, 37), cX, cX] = true := by decide +kernel
set_option maxRecDepth 100000 in
theorem op_3_176 : cAll 3 [] 1265 [(5, 0)] [(3, 3), (0, 3), (38, 38), cX, cX] = true := by decide +kernel
set_option maxRecDepth 100000 in
theorem op_3_177 : cAll 3 [] 1279 [(5, 0)] [(3, 3), (0, 3), (39, 39), cX, cX] = true := by decide +kernel
set_option maxRecDepth 100000 in
theorem op_3_178 : cAll 3 [] 1293 [(5, 0)] [(3, 3), (0, 3), (40, 40), cX, cX] = true := by decide +kernel
set_option maxRecDepth 100000 in
theorem op_3_179 : cAll 3 [] 1307 [(5, 0)] [(3, 3), (0, 3), (41, 41), cX, cX] = true := by decide +kernel
set_option maxRecDepth 100000 in
theorem op_3_180 : cAll 3 [] 1321 [(5, 0)] [(3, 3), (0, 3), (42, 42), cX, cX] = true := by decide +kernel
set_option maxRecDepth 100000 in
theorem op_3_181 : cAll 3 [] 1335 [(5, 0)] [(3, 3), (0, 3), (43, 43), cX, cX] = true := by decide +kernel
set_option maxRecDepth 100000 in
theorem op_3_182 : cAll 3 [] 1573 [(2, 44), (5, 0), (2, 45), (5, 0), (2, 46), (5, 0), (2, 47), (5, 0), (2, 48), (5, 0), (2, 49), (5, 0), (2, 50), (5, 0), (2, 51), (5, 0), (2, 52), (5, 0), (2, 53), (5, 0), (2, 54), (5, 0), (2, 55), (5, 0), (2, 56), (5, 0), (2, 57), (5, 0), (2, 58), (5, 0), (2, 59), (5, 0), (5, 0)] [(3, 3), (0, 3), (44, 60), cX, cX] = true := by decide +kernel
set_option maxRecDepth 100000 in
theorem op_3_183 : cAll 3 [] 152 [(5, 0)] [(0, 3), (0, 3), (61, 2147483647), cX, cX] = true := by decide +kernel
set_option maxRecDepth 100000 in
theorem op_3_184 : cAll 3 [] 133 [(5, 0)] [(0, 3), (4, 2147483647), cX, cX, cX] = true := by decide +kernel
set_option maxRecDepth 100000 in
theorem op_3_185 : cAll 3 [] 113 [(5, 0)] [(4, 2147483647), cX, cX, cX, cX] = true := by decide +kernel
theorem op_3 : cGood 3 [cX, cX, cX, cX, cX] := cGood_cut (j := 0) (c := (-1)) rfl (cAll_ok op_3_0) (cGood_cut (j := 0) (c := 3) rfl (cGood_cut (j := 1) (c := (-1)) rfl (cAll_ok op_3_1) (cGood_cut (j := 1) (c := 3) rfl (cGood_cut (j := 2) (c := (-1)) rfl (cAll_ok op_3_2) (cGood_cut (j := 2) (c := 60) rfl (cGood_cut (j := 0) (c := 1) rfl (cGood_cut (j := 0) (c := 0) rfl (cGood_cut (j := 2) (c := 0) rfl (cAll_ok op_3_3) (cGood_cut (j := 2) (c := 1) rfl (cAll_ok op_3_4) (cGood_cut (j := 2) (c := 2) rfl (cAll_ok op_3_5) (cGood_cut (j := 2) (c := 3) rfl (cAll_ok op_3_6) (cGood_cut (j := 2) (c := 4) rfl (cAll_ok op_3_7) (cGood_cut (j := 2) (c := 5) rfl (cAll_ok op_3_8) (cGood_cut (j := 2) (c := 6) rfl (cAll_ok op_3_9) (cGood_cut (j := 2) (c := 7) rfl (cAll_ok op_3_10) (cGood_cut (j := 2) (c := 8) rfl (cAll_ok op_3_11) (cGood_cut (j := 2) (c := 9) rfl (cAll_ok op_3_12) (cGood_cut (j := 2) (c := 10) rfl (cAll_ok op_3_13) (cGood_cut (j := 2) (c := 11) rfl (cAll_ok op_3_14) (cGood_cut (j := 2) (c := 12) rfl (cAll_ok op_3_15) (cGood_cut (j := 2) (c := 13) rfl (cAll_ok op_3_16) (cGood_cut (j := 2) (c := 14) rfl (cAll_ok op_3_17) (cGood_cut (j := 2) (c := 15) rfl (cAll_ok op_3_18) (cGood_cut (j := 2) (c := 16) rfl (cAll_ok op_3_19) (cGood_cut (j := 2) (c := 17) rfl (cAll_ok op_3_20) (cGood_cut (j := 2) (c := 18) rfl (cAll_ok op_3_21) (cGood_cut (j := 2) (c := 19) rfl (cAll_ok op_3_22) (cGood_cut (j := 2) (c := 20) rfl (cAll_ok op_3_23) (cGood_cut (j := 2) (c := 21) rfl (cAll_ok op_3_24) (cGood_cut (j := 2) (c := 22) rfl (cAll_ok op_3_25) (cGood_cut (j := 2) (c := 23) rfl (cAll_ok op_3_26) (cGood_cut (j := 2) (c := 24) rfl (cAll_ok op_3_27) (cGood_cut (j := 2) (c := 25) rfl (cAll_ok op_3_28) (cGood_cut (j := 2) (c := 26) rfl (cAll_ok op_3_29) (cGood_cut (j := 2) (c := 27) rfl (cAll_ok op_3_30) (cGood_cut (j := 2) (c := 28) rfl (cAll_ok op_3_31) (cGood_cut (j := 2) (c := 29) rfl (cAll_ok op_3_32) (cGood_cut (j := 2) (c := 30) rfl (cAll_ok op_3_33) (cGood_cut (j := 2) (c := 31) rfl (cAll_ok op_3_34) (cGood_cut (j := 2) (c := 32) rfl (cAll_ok op_3_35) (cGood_cut (j := 2) (c := 33) rfl (cAll_ok op_3_36) (cGood_cut (j := 2) (c := 34) rfl (cAll_ok op_3_37) (cGood_cut (j := 2) (c := 35) rfl (cAll_ok op_3_38) (cGood_cut (j := 2) (c := 36) rfl (cAll_ok op_3_39) (cGood_cut (j := 2) (c := 37) rfl (cAll_ok op_3_40) (cGood_cut (j := 2) (c := 38) rfl (cAll_ok op_3_41) (cGood_cut (j := 2) (c := 39) rfl (cAll_ok op_3_42) (cGood_cut (j := 2) (c := 40) rfl (cAll_ok op_3_43) (cGood_cut (j := 2) (c := 41) rfl (cAll_ok op_3_44) (cGood_cut (j := 2) (c := 42) rfl (cAll_ok op_3_45) (cGood_cut (j := 2) (c := 43) rfl (cAll_ok op_3_46) (cAll_ok op_3_47))))))))))))))))))))))))))))))))))))))))))))) (cGood_cut (j := 2) (c := 0) rfl (cAll_ok op_3_48) (cGood_cut (j := 2) (c := 1) rfl (cAll_ok op_3_49) (cGood_cut (j := 2) (c := 2) rfl (cAll_ok op_3_50) (cGood_cut (j := 2) (c := 3) rfl (cAll_ok op_3_51) (cGood_cut (j := 2) (c := 4) rfl (cAll_ok op_3_52) (cGood_cut (j := 2) (c := 5) rfl (cAll_ok op_3_53) (cGood_cut (j := 2) (c := 6) rfl (cAll_ok op_3_54) (cGood_cut (j := 2) (c := 7) rfl (cAll_ok op_3_55) (cGood_cut (j := 2) (c := 8) rfl (cAll_ok op_3_56) (cGood_cut (j := 2) (c := 9) rfl (cAll_ok op_3_57) (cGood_cut (j := 2) (c := 10) rfl (cAll_ok op_3_58) (cGood_cut (j := 2) (c := 11) rfl (cAll_ok op_3_59) (cGood_cut (j := 2) (c := 12) rfl (cAll_ok op_3_60) (cGood_cut (j := 2) (c := 13) rfl (cAll_ok op_3_61) (cGood_cut (j := 2) (c := 14) rfl (cAll_ok op_3_62) (cGood_cut (j := 2) (c := 15) rfl (cAll_ok op_3_63) (cGood_cut (j := 2) (c := 16) rfl (cAll_ok op_3_64) (cGood_cut (j := 2) (c := 17) rfl (cAll_ok op_3_65) (cGood_cut (j := 2) (c := 18) rfl (cAll_ok op_3_66) (cGood_cut (j := 2) (c := 19) rfl (cAll_ok op_3_67) (cGood_cut (j := 2) (c := 20) rfl (cAll_ok op_3_68) (cGood_cut (j := 2) (c := 21) rfl (cAll_ok op_3_69) (cGood_cut (j := 2) (c := 22) rfl (cAll_ok op_3_70) (cGood_cut (j := 2) (c := 23) rfl (cAll_ok op_3_71) (cGood_cut (j := 2) (c := 24) rfl (cAll_ok op_3_72) (cGood_cut (j := 2) (c := 25) rfl (cAll_ok op_3_73) (cGood_cut (j := 2) (c := 26) rfl (cAll_ok op_3_74) (cGood_cut (j := 2) (c := 27) rfl (cAll_ok op_3_75) (cGood_cut (j := 2) (c := 28) rfl (cAll_ok op_3_76) (cGood_cut (j := 2) (c := 29) rfl (cAll_ok op_3_77) (cGood_cut (j := 2) (c := 30) rfl (cAll_ok op_3_78) (cGood_cut (j := 2) (c := 31) rfl (cAll_ok op_3_79) (cGood_cut (j := 2) (c := 32) rfl (cAll_ok op_3_80) (cGood_cut (j := 2) (c := 33) rfl (cAll_ok op_3_81) (cGood_cut (j := 2) (c := 34) rfl (cAll_ok op_3_82) (cGood_cut (j := 2) (c := 35) rfl (cAll_ok op_3_83) (cGood_cut (j := 2) (c := 36) rfl (cAll_ok op_3_84) (cGood_cut (j := 2) (c := 37) rfl (cAll_ok op_3_85) (cGood_cut (j := 2) (c := 38) rfl (cAll_ok op_3_86) (cGood_cut (j := 2) (c := 39) rfl (cAll_ok op_3_87) (cGood_cut (j := 2) (c := 40) rfl (cAll_ok op_3_88) (cGood_cut (j := 2) (c := 41) rfl (cAll_ok op_3_89) (cGood_cut (j := 2) (c := 42) rfl (cAll_ok op_3_90) (cGood_cut (j := 2) (c := 43) rfl (cAll_ok op_3_91) (cAll_ok op_3_92)))))))))))))))))))))))))))))))))))))))))))))) (cGood_cut (j := 0) (c := 2) rfl (cGood_cut (j := 2) (c := 0) rfl (cAll_ok op_3_93) (cGood_cut (j := 2) (c := 1) rfl (cAll_ok op_3_94) (cGood_cut (j := 2) (c := 2) rfl (cAll_ok op_3_95) (cGood_cut (j := 2) (c := 3) rfl (cAll_ok op_3_96) (cGood_cut (j := 2) (c := 4) rfl (cAll_ok op_3_97) (cGood_cut (j := 2) (c := 5) rfl (cAll_ok op_3_98) (cGood_cut (j := 2) (c := 6) rfl (cAll_ok op_3_99) (cGood_cut (j := 2) (c := 7) rfl (cAll_ok op_3_100) (cGood_cut (j := 2) (c := 8) rfl (cAll_ok op_3_101) (cGood_cut (j := 2) (c := 9) rfl (cAll_ok op_3_102) (cGood_cut (j := 2) (c := 10) rfl (cAll_ok op_3_103) (cGood_cut (j := 2) (c := 11) rfl (cAll_ok op_3_104) (cGood_cut (j := 2) (c := 12) rfl (cAll_ok op_3_105) (cGood_cut (j := 2) (c := 13) rfl (cAll_ok op_3_106) (cGood_cut (j := 2) (c := 14) rfl (cAll_ok op_3_107) (cGood_cut (j := 2) (c := 15) rfl (cAll_ok op_3_108) (cGood_cut (j := 2) (c := 16) rfl (cAll_ok op_3_109) (cGood_cut (j := 2) (c := 17) rfl (cAll_ok op_3_110) (cGood_cut (j := 2) (c := 18) rfl (cAll_ok op_3_111) (cGood_cut (j := 2) (c := 19) rfl (cAll_ok op_3_112) (cGood_cut (j := 2) (c := 20) rfl (cAll_ok op_3_113) (cGood_cut (j := 2) (c := 21) rfl (cAll_ok op_3_114) (cGood_cut (j := 2) (c := 22) rfl (cAll_ok op_3_115) (cGood_cut (j := 2) (c := 23) rfl (cAll_ok op_3_116) (cGood_cut (j := 2) (c := 24) rfl (cAll_ok op_3_117) (cGood_cut (j := 2) (c := 25) rfl (cAll_ok op_3_118) (cGood_cut (j := 2) (c := 26) rfl (cAll_ok op_3_119) (cGood_cut (j := 2) (c := 27) rfl (cAll_ok op_3_120) (cGood_cut (j := 2) (c := 28) rfl (cAll_ok op_3_121) (cGood_cut (j := 2) (c := 29) rfl (cAll_ok op_3_122) (cGood_cut (j := 2) (c := 30) rfl (cAll_ok op_3_123) (cGood_cut (j := 2) (c := 31) rfl (cAll_ok op_3_124) (cGood_cut (j := 2) (c := 32) rfl (cAll_ok op_3_125) (cGood_cut (j := 2) (c := 33) rfl (cAll_ok op_3_126) (cGood_cut (j := 2) (c := 34) rfl (cAll_ok op_3_127) (cGood_cut (j := 2) (c := 35) rfl (cAll_ok op_3_128) (cGood_cut (j := 2) (c := 36) rfl (cAll_ok op_3_129) (cGood_cut (j := 2) (c := 37) rfl (cAll_ok op_3_130) (cGood_cut (j := 2) (c := 38) rfl (cAll_ok op_3_131) (cGood_cut (j := 2) (c := 39) rfl (cAll_ok op_3_132) (cGood_cut (j := 2) (c := 40) rfl (cAll_ok op_3_133) (cGood_cut (j := 2) (c := 41) rfl (cAll_ok op_3_134) (cGood_cut (j := 2) (c := 42) rfl (cAll_ok op_3_135) (cGood_cut (j := 2) (c := 43) rfl (cAll_ok op_3_136) (cAll_ok op_3_137))))))))))))))))))))))))))))))))))))))))))))) (cGood_cut (j := 2) (c := 0) rfl (cAll_ok op_3_138) (cGood_cut (j := 2) (c := 1) rfl (cAll_ok op_3_139) (cGood_cut (j := 2) (c := 2) rfl (cAll_ok op_3_140) (cGood_cut (j := 2) (c := 3) rfl (cAll_ok op_3_141) (cGood_cut (j := 2) (c := 4) rfl (cAll_ok op_3_142) (cGood_cut (j := 2) (c := 5) rfl (cAll_ok op_3_143) (cGood_cut (j := 2) (c := 6) rfl (cAll_ok op_3_144) (cGood_cut (j := 2) (c := 7) rfl (cAll_ok op_3_145) (cGood_cut (j := 2) (c := 8) rfl (cAll_ok op_3_146) (cGood_cut (j := 2) (c := 9) rfl (cAll_ok op_3_147) (cGood_cut (j := 2) (c := 10) rfl (cAll_ok op_3_148) (cGood_cut (j := 2) (c := 11) rfl (cAll_ok op_3_149) (cGood_cut (j := 2) (c := 12) rfl (cAll_ok op_3_150) (cGood_cut (j := 2) (c := 13) rfl (cAll_ok op_3_151) (cGood_cut (j := 2) (c := 14) rfl (cAll_ok op_3_152) (cGood_cut (j := 2) (c := 15) rfl (cAll_ok op_3_153) (cGood_cut (j := 2) (c := 16) rfl (cAll_ok op_3_154) (cGood_cut (j := 2) (c := 17) rfl (cAll_ok op_3_155) (cGood_cut (j := 2) (c := 18) rfl (cAll_ok op_3_156) (cGood_cut (j := 2) (c := 19) rfl (cAll_ok op_3_157) (cGood_cut (j := 2) (c := 20) rfl (cAll_ok op_3_158) (cGood_cut (j := 2) (c := 21) rfl (cAll_ok op_3_159) (cGood_cut (j := 2) (c := 22) rfl (cAll_ok op_3_160) (cGood_cut (j := 2) (c := 23) rfl (cAll_ok op_3_161) (cGood_cut (j := 2) (c := 24) rfl (cAll_ok op_3_162) (cGood_cut (j := 2) (c := 25) rfl (cAll_ok op_3_163) (cGood_cut (j := 2) (c := 26) rfl (cAll_ok op_3_164) (cGood_cut (j := 2) (c := 27) rfl (cAll_ok op_3_165) (cGood_cut (j := 2) (c := 28) rfl (cAll_ok op_3_166) (cGood_cut (j := 2) (c := 29) rfl (cAll_ok op_3_167) (cGood_cut (j := 2) (c := 30) rfl (cAll_ok op_3_168) (cGood_cut (j := 2) (c := 31) rfl (cAll_ok op_3_169) (cGood_cut (j := 2) (c := 32) rfl (cAll_ok op_3_170) (cGood_cut (j := 2) (c := 33) rfl (cAll_ok op_3_171) (cGood_cut (j := 2) (c := 34) rfl (cAll_ok op_3_172) (cGood_cut (j := 2) (c := 35) rfl (cAll_ok op_3_173) (cGood_cut (j := 2) (c := 36) rfl (cAll_ok op_3_174) (cGood_cut (j := 2) (c := 37) rfl (cAll_ok op_3_175) (cGood_cut (j := 2) (c := 38) rfl (cAll_ok op_3_176) (cGood_cut (j := 2) (c := 39) rfl (cAll_ok op_3_177) (cGood_cut (j := 2) (c := 40) rfl (cAll_ok op_3_178) (cGood_cut (j := 2) (c := 41) rfl (cAll_ok op_3_179) (cGood_cut (j := 2) (c := 42) rfl (cAll_ok op_3_180) (cGood_cut (j := 2) (c := 43) rfl (cAll_ok op_3_181) (cAll_ok op_3_182))))))))))))))))))))))))))))))))))))))))))))))) (cAll_ok op_3_183))) (cAll_ok op_3_184))) (cAll_ok op_3_185))
set_option maxRecDepth 100000 in
theorem op_21_0 : cAll 21 [] 87 [(5, 0)] [((-2147483648), 0), cX, cX, cX, cX] = true := by decide +kernel
set_option maxRecDepth 100000 in
theorem op_21_1 : cAll 21 [] 1664 [(0, 13), (0, 7), (0, 4), (0, 2), (0, 1), (5, 0), (5, 0), (0, 3), (5, 0), (5, 0), (0, 6), (0, 5), (5, 0), (5, 0), (5, 0), (0, 10), (0, 9), (0, 8), (5, 0), (5, 0), (5, 0), (0, 12), (0, 11), (5, 0), (5, 0), (5, 0), (0, 19), (0, 16), (0, 15), (0, 14), (5, 0), (5, 0), (5, 0), (0, 18), (0, 17), (5, 0), (5, 0), (5, 0), (0, 22), (0, 21), (0, 20), (5, 0), (5, 0), (5, 0), (0, 24), (0, 23), (5, 0), (5, 0), (5, 0)] [(1, 25), cX, cX, cX, cX] = true := by decide +kernel
set_option maxRecDepth 100000 in
theorem op_21_2 : cAll 21 [] 2091 [(0, 29), (0, 27), (0, 26), (5, 0), (5, 0), (0, 28), (5, 0), (5, 0), (0, 31), (0, 30), (5, 0), (5, 0), (5, 0)] [(26, 32), cX, cX, cX, cX] = true := by decide +kernel
set_option maxRecDepth 100000 in
theorem op_21_3 : cAll 21 [] 2457 [(0, 35), (0, 34), (0, 33), (5, 0), (5, 0), (5, 0), (0, 37), (0, 36), (5, 0), (5, 0), (5, 0)] [(33, 38), cX, cX, cX, cX] = true := by decide +kernel
set_option maxRecDepth 100000 in
theorem op_21_4 : cAll 21 [] 2823 [(0, 41), (0, 40), (0, 39), (5, 0), (5, 0), (5, 0), (0, 43), (0, 42), (5, 0), (5, 0), (5, 0)] [(39, 44), cX, cX, cX, cX] = true := by decide +kernel
set_option maxRecDepth 100000 in
theorem op_21_5 : cAll 21 [] 3189 [(0, 47), (0, 46), (0, 45), (5, 0), (5, 0), (5, 0), (0, 49), (0, 48), (5, 0), (5, 0), (5, 0)] [(45, 50), cX, cX, cX, cX] = true := by decide +kernel
set_option maxRecDepth 100000 in
theorem op_21_6 : cAll 21 [] 3616 [(0, 54), (0, 52), (0, 51), (5, 0), (5, 0), (0, 53), (5, 0), (5, 0), (0, 56), (0, 55), (5, 0), (5, 0), (5, 0)] [(51, 57), cX, cX, cX, cX] = true := by decide +kernel
set_option maxRecDepth 100000 in
theorem op_21_7 : cAll 21 [] 3982 [(0, 60), (0, 59), (0, 58), (5, 0), (5, 0), (5, 0), (0, 62), (0, 61), (5, 0), (5, 0), (5, 0)] [(58, 63), cX, cX, cX, cX] = true := by decide +kernel
set_option maxRecDepth 100000 in
theorem op_21_8 : cAll 21 [] 4165 [(0, 65), (0, 64), (5, 0), (5, 0), (5, 0)] [(64, 66), cX, cX, cX, cX] = true := by decide +kernel
set_option maxRecDepth 100000 in
theorem op_21_9 : cAll 21 [] 4348 [(0, 68), (0, 67), (5, 0), (5, 0), (5, 0)] [(67, 69), cX, cX, cX, cX] = true := by decide +kernel
set_option maxRecDepth 100000 in
theorem op_21_10 : cAll 21 [] 4531 [(0, 71), (0, 70), (5, 0), (5, 0), (5, 0)] [(70, 72), cX, cX, cX, cX] = true := by decide +kernel
