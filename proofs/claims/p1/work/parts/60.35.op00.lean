set_option maxRecDepth 100000 in
theorem op_3_0 : cAll 3 [] 107 [(5, 0)] [((-2147483648), (-1)), cX, cX, cX, cX] = true := by decide +kernel
set_option maxRecDepth 100000 in
theorem op_3_1 : cAll 3 [] 127 [(5, 0)] [(0, 3), ((-2147483648), (-1)), cX, cX, cX] = true := by decide +kernel
set_option maxRecDepth 100000 in
theorem op_3_2 : cAll 3 [] 146 [(5, 0)] [(0, 3), (0, 3), ((-2147483648), (-1)), cX, cX] = true := by decide +kernel
set_option maxRecDepth 100000 in
theorem op_3_3 : cAll 3 [] 733 [(5, 0)] [(0, 0), (0, 3), (0, 0), cX, cX] = true := by decide +kernel
set_option maxRecDepth 100000 in
theorem op_3_4 : cAll 3 [] 747 [(5, 0)] [(0, 0), (0, 3), (1, 1), cX, cX] = true := by decide +kernel
set_option maxRecDepth 100000 in
theorem op_3_5 : cAll 3 [] 761 [(5, 0)] [(0, 0), (0, 3), (2, 2), cX, cX] = true := by decide +kernel
set_option maxRecDepth 100000 in
theorem op_3_6 : cAll 3 [] 775 [(5, 0)] [(0, 0), (0, 3), (3, 3), cX, cX] = true := by decide +kernel
set_option maxRecDepth 100000 in
theorem op_3_7 : cAll 3 [] 789 [(5, 0)] [(0, 0), (0, 3), (4, 4), cX, cX] = true := by decide +kernel
set_option maxRecDepth 100000 in
theorem op_3_8 : cAll 3 [] 803 [(5, 0)] [(0, 0), (0, 3), (5, 5), cX, cX] = true := by decide +kernel
set_option maxRecDepth 100000 in
theorem op_3_9 : cAll 3 [] 817 [(5, 0)] [(0, 0), (0, 3), (6, 6), cX, cX] = true := by decide +kernel
set_option maxRecDepth 100000 in
theorem op_3_10 : cAll 3 [] 831 [(5, 0)] [(0, 0), (0, 3), (7, 7), cX, cX] = true := by decide +kernel
set_option maxRecDepth 100000 in
theorem op_3_11 : cAll 3 [] 845 [(5, 0)] [(0, 0), (0, 3), (8, 8), cX, cX] = true := by decide +kernel
set_option maxRecDepth 100000 in
theorem op_3_12 : cAll 3 [] 859 [(5, 0)] [(0, 0), (0, 3), (9, 9), cX, cX] = true := by decide +kernel
set_option maxRecDepth 100000 in
theorem op_3_13 : cAll 3 [] 873 [(5, 0)] [(0, 0), (0, 3), (10, 10), cX, cX] = true := by decide +kernel
set_option maxRecDepth 100000 in
theorem op_3_14 : cAll 3 [] 887 [(5, 0)] [(0, 0), (0, 3), (11, 11), cX, cX] = true := by decide +kernel
set_option maxRecDepth 100000 in
theorem op_3_15 : cAll 3 [] 901 [(5, 0)] [(0, 0), (0, 3), (12, 12), cX, cX] = true := by decide +kernel
set_option maxRecDepth 100000 in
theorem op_3_16 : cAll 3 [] 915 [(5, 0)] [(0, 0), (0, 3), (13, 13), cX, cX] = true := by decide +kernel
set_option maxRecDepth 100000 in
theorem op_3_17 : cAll 3 [] 929 [(5, 0)] [(0, 0), (0, 3), (14, 14), cX, cX] = true := by decide +kernel
set_option maxRecDepth 100000 in
theorem op_3_18 : cAll 3 [] 943 [(5, 0)] [(0, 0), (0, 3), (15, 15), cX, cX] = true := by decide +kernel
set_option maxRecDepth 100000 in
theorem op_3_19 : cAll 3 [] 957 [(5, 0)] [(0, 0), (0, 3), (16, 16), cX, cX] = true := by decide +kernel
set_option maxRecDepth 100000 in
theorem op_3_20 : cAll 3 [] 971 [(5, 0)] [(0, 0), (0, 3), (17, 17), cX, cX] = true := by decide +kernel
set_option maxRecDepth 100000 in
theorem op_3_21 : cAll 3 [] 985 [(5, 0)] [(0, 0), (0, 3), (18, 18), cX, cX] = true := by decide +kernel
set_option maxRecDepth 100000 in
theorem op_3_22 : cAll 3 [] 999 [(5, 0)] [(0, 0), (0, 3), (19, 19), cX, cX] = true := by decide +kernel
set_option maxRecDepth 100000 in
theorem op_3_23 : cAll 3 [] 1013 [(5, 0)] [(0, 0), (0, 3), (20, 20), cX, cX] = true := by decide +kernel
set_option maxRecDepth 100000 in
theorem op_3_24 : cAll 3 [] 1027 [(5, 0)] [(0, 0), (0, 3), (21, 21), cX, cX] = true := by decide +kernel
set_option maxRecDepth 100000 in
theorem op_3_25 : cAll 3 [] 1041 [(5, 0)] [(0, 0), (0, 3), (22, 22), cX, cX] = true := by decide +kernel
set_option maxRecDepth 100000 in
theorem op_3_26 : cAll 3 [] 1055 [(5, 0)] [(0, 0), (0, 3), (23, 23), cX, cX] = true := by decide +kernel
set_option maxRecDepth 100000 in
theorem op_3_27 : cAll 3 [] 1069 [(5, 0)] [(0, 0), (0, 3), (24, 24), cX, cX] = true := by decide +kernel
set_option maxRecDepth 100000 in
theorem op_3_28 : cAll 3 [] 1083 [(5, 0)] [(0, 0), (0, 3), (25, 25), cX, cX] = true := by decide +kernel
set_option maxRecDepth 100000 in
theorem op_3_29 : cAll 3 [] 1097 [(5, 0)] [(0, 0), (0, 3), (26, 26), cX, cX] = true := by decide +kernel
set_option maxRecDepth 100000 in
theorem op_3_30 : cAll 3 [] 1111 [(5, 0)] [(0, 0), (0, 3), (27, 27), cX, cX] = true := by decide +kernel
set_option maxRecDepth 100000 in
theorem op_3_31 : cAll 3 [] 1125 [(5, 0)] [(0, 0), (0, 3), (28, 28), cX, cX] = true := by decide +kernel
set_option maxRecDepth 100000 in
theorem op_3_32 : cAll 3 [] 1139 [(5, 0)] [(0, 0), (0, 3), (29, 29), cX, cX] = true := by decide +kernel
set_option maxRecDepth 100000 in
theorem op_3_33 : cAll 3 [] 1153 [(5, 0)] [(0, 0), (0, 3), (30, 30), cX, cX] = true := by decide +kernel
set_option maxRecDepth 100000 in
theorem op_3_34 : cAll 3 [] 1167 [(5, 0)] [(0, 0), (0, 3), (31, 31), cX, cX] = true := by decide +kernel
set_option maxRecDepth 100000 in
theorem op_3_35 : cAll 3 [] 1181 [(5, 0)] [(0, 0), (0, 3), (32, 32), cX, cX] = true := by decide +kernel
set_option maxRecDepth 100000 in
theorem op_3_36 : cAll 3 [] 1195 [(5, 0)] [(0, 0), (0, 3), (33, 33), cX, cX] = true := by decide +kernel
set_option maxRecDepth 100000 in
theorem op_3_37 : cAll 3 [] 1209 [(5, 0)] [(0, 0), (0, 3), (34, 34), cX, cX] = true := by decide +kernel
set_option maxRecDepth 100000 in
theorem op_3_38 : cAll 3 [] 1223 [(5, 0)] [(0, 0), (0, 3), (35, 35), cX, cX] = true := by decide +kernel
set_option maxRecDepth 100000 in
theorem op_3_39 : cAll 3 [] 1237 [(5, 0)] [(0, 0), (0, 3), (36, 36), cX, cX] = true := by decide +kernel
set_option maxRecDepth 100000 in
theorem op_3_40 : cAll 3 [] 1251 [(5, 0)] [(0, 0), (0, 3), (37, 37), cX, cX] = true := by decide +kernel
set_option maxRecDepth 100000 in
theorem op_3_41 : cAll 3 [] 1265 [(5, 0)] [(0, 0), (0, 3), (38, 38), cX, cX] = true := by decide +kernel
set_option maxRecDepth 100000 in
theorem op_3_42 : cAll 3 [] 1279 [(5, 0)] [(0, 0), (0, 3), (39, 39), cX, cX] = true := by decide +kernel
set_option maxRecDepth 100000 in
theorem op_3_43 : cAll 3 [] 1293 [(5, 0)] [(0, 0), (0, 3), (40, 40), cX, cX] = true := by decide +kernel
set_option maxRecDepth 100000 in
theorem op_3_44 : cAll 3 [] 1307 [(5, 0)] [(0, 0), (0, 3), (41, 41), cX, cX] = true := by decide +kernel
set_option maxRecDepth 100000 in
theorem op_3_45 : cAll 3 [] 1321 [(5, 0)] [(0, 0), (0, 3), (42, 42), cX, cX] = true := by decide +kernel
set_option maxRecDepth 100000 in
theorem op_3_46 : cAll 3 [] 1335 [(5, 0)] [(0, 0), (0, 3), (43, 43), cX, cX] = true := by decide +kernel
set_option maxRecDepth 100000 in
theorem op_3_47 : cAll 3 [] 1573 [(2, 44), (5, 0), (2, 45), (5, 0), (2, 46), (5, 0), (2, 47), (5, 0), (2, 48), (5, 0), (2, 49), (5, 0), (2, 50), (5, 0), (2, 51), (5, 0), (2, 52), (5, 0), (2, 53), (5, 0), (2, 54), (5, 0), (2, 55), (5, 0), (2, 56), (5, 0), (2, 57), (5, 0), (2, 58), (5, 0), (2, 59), (5, 0), (5, 0)] [(0, 0), (0, 3), (44, 60), cX, cX] = true := by decide +kernel
set_option maxRecDepth 100000 in
theorem op_3_48 : cAll 3 [] 733 [(5, 0)] [(1, 1), (0, 3), (0, 0), cX, cX] = true := by decide +kernel
set_option maxRecDepth 100000 in
theorem op_3_49 : cAll 3 [] 747 [(5, 0)] [(1, 1), (0, 3), (1, 1), cX, cX] = true := by decide +kernel
set_option maxRecDepth 100000 in
theorem op_3_50 : cAll 3 [] 761 [(5, 0)] [(1, 1), (0, 3), (2, 2), cX, cX] = true := by decide +kernel
set_option maxRecDepth 100000 in
theorem op_3_51 : cAll 3 [] 775 [(5, 0)] [(1, 1), (0, 3), (3, 3), cX, cX] = true := by decide +kernel
set_option maxRecDepth 100000 in
theorem op_3_52 : cAll 3 [] 789 [(5, 0)] [(1, 1), (0, 3), (4, 4), cX, cX] = true := by decide +kernel
set_option maxRecDepth 100000 in
theorem op_3_53 : cAll 3 [] 803 [(5, 0)] [(1, 1), (0, 3), (5, 5), cX, cX] = true := by decide +kernel
set_option maxRecDepth 100000 in
theorem op_3_54 : cAll 3 [] 817 [(5, 0)] [(1, 1), (0, 3), (6, 6), cX, cX] = true := by decide +kernel
set_option maxRecDepth 100000 in
theorem op_3_55 : cAll 3 [] 831 [(5, 0)] [(1, 1), (0, 3), (7, 7), cX, cX] = true := by decide +kernel
set_option maxRecDepth 100000 in
theorem op_3_56 : cAll 3 [] 845 [(5, 0)] [(1, 1), (0, 3), (8, 8), cX, cX] = true := by decide +kernel
set_option maxRecDepth 100000 in
theorem op_3_57 : cAll 3 [] 859 [(5, 0)] [(1, 1), (0, 3), (9, 9), cX, cX] = true := by decide +kernel
set_option maxRecDepth 100000 in
theorem op_3_58 : cAll 3 [] 873 [(5, 0)] [(1, 1), (0, 3), (10, 10), cX, cX] = true := by decide +kernel
set_option maxRecDepth 100000 in
theorem op_3_59 : cAll 3 [] 887 [(5, 0)] [(1, 1), (0, 3), (11, 11), cX, cX] = true := by decide +kernel
set_option maxRecDepth 100000 in
theorem op_3_60 : cAll 3 [] 901 [(5, 0)] [(1, 1), (0, 3), (12, 12), cX, cX] = true := by decide +kernel
set_option maxRecDepth 100000 in
theorem op_3_61 : cAll 3 [] 915 [(5, 0)] [(1, 1), (0, 3), (13, 13), cX, cX] = true := by decide +kernel
set_option maxRecDepth 100000 in
theorem op_3_62 : cAll 3 [] 929 [(5, 0)] [(1, 1), (0, 3), (14, 14), cX, cX] = true := by decide +kernel
set_option maxRecDepth 100000 in
theorem op_3_63 : cAll 3 [] 943 [(5, 0)] [(1, 1), (0, 3), (15, 15), cX, cX] = true := by decide +kernel
set_option maxRecDepth 100000 in
theorem op_3_64 : cAll 3 [] 957 [(5, 0)] [(1, 1), (0, 3), (16, 16), cX, cX] = true := by decide +kernel
set_option maxRecDepth 100000 in
theorem op_3_65 : cAll 3 [] 971 [(5, 0)] [(1, 1), (0, 3), (17, 17), cX, cX] = true := by decide +kernel
set_option maxRecDepth 100000 in
theorem op_3_66 : cAll 3 [] 985 [(5, 0)] [(1, 1), (0, 3), (18, 18), cX, cX] = true := by decide +kernel
set_option maxRecDepth 100000 in
theorem op_3_67 : cAll 3 [] 999 [(5, 0)] [(1, 1), (0, 3), (19, 19), cX, cX] = true := by decide +kernel
set_option maxRecDepth 100000 in
theorem op_3_68 : cAll 3 [] 1013 [(5, 0)] [(1, 1), (0, 3), (20, 20), cX, cX] = true := by decide +kernel
set_option maxRecDepth 100000 in
theorem op_3_69 : cAll 3 [] 1027 [(5, 0)] [(1, 1), (0, 3), (21, 21), cX, cX] = true := by decide +kernel
set_option maxRecDepth 100000 in
theorem op_3_70 : cAll 3 [] 1041 [(5, 0)] [(1, 1), (0, 3), (22, 22), cX, cX] = true := by decide +kernel
set_option maxRecDepth 100000 in
theorem op_3_71 : cAll 3 [] 1055 [(5, 0)] [(1, 1), (0, 3), (23, 23), cX, cX] = true := by decide +kernel
set_option maxRecDepth 100000 in
theorem op_3_72 : cAll 3 [] 1069 [(5, 0)] [(1, 1), (0, 3), (24, 24), cX, cX] = true := by decide +kernel
set_option maxRecDepth 100000 in
theorem op_3_73 : cAll 3 [] 1083 [(5, 0)] [(1, 1), (0, 3), (25, 25), cX, cX] = true := by decide +kernel
set_option maxRecDepth 100000 in
theorem op_3_74 : cAll 3 [] 1097 [(5, 0)] [(1, 1), (0, 3), (26, 26), cX, cX] = true := by decide +kernel
set_option maxRecDepth 100000 in
theorem op_3_75 : cAll 3 [] 1111 [(5, 0)] [(1, 1), (0, 3), (27, 27), cX, cX] = true := by decide +kernel
set_option maxRecDepth 100000 in
theorem op_3_76 : cAll 3 [] 1125 [(5, 0)] [(1, 1), (0, 3), (28, 28), cX, cX] = true := by decide +kernel
set_option maxRecDepth 100000 in
theorem op_3_77 : cAll 3 [] 1139 [(5, 0)] [(1, 1), (0, 3), (29, 29), cX, cX] = true := by decide +kernel
set_option maxRecDepth 100000 in
theorem op_3_78 : cAll 3 [] 1153 [(5, 0)] [(1, 1), (0, 3), (30, 30), cX, cX] = true := by decide +kernel
set_option maxRecDepth 100000 in
theorem op_3_79 : cAll 3 [] 1167 [(5, 0)] [(1, 1), (0, 3), (31, 31), cX, cX] = true := by decide +kernel
set_option maxRecDepth 100000 in
theorem op_3_80 : cAll 3 [] 1181 [(5, 0)] [(1, 1), (0, 3), (32, 32), cX, cX] = true := by decide +kernel
set_option maxRecDepth 100000 in
theorem op_3_81 : cAll 3 [] 1195 [(5, 0)] [(1, 1), (0, 3), (33, 33), cX, cX] = true := by decide +kernel
set_option maxRecDepth 100000 in
theorem op_3_82 : cAll 3 [] 1209 [(5, 0)] [(1, 1), (0, 3), (34, 34), cX, cX] = true := by decide +kernel
set_option maxRecDepth 100000 in
theorem op_3_83 : cAll 3 [] 1223 [(5, 0)] [(1, 1), (0, 3), (35, 35), cX, cX] = true := by decide +kernel
set_option maxRecDepth 100000 in
theorem op_3_84 : cAll 3 [] 1237 [(5, 0)] [(1, 1), (0, 3), (36, 36), cX, cX] = true := by decide +kernel
set_option maxRecDepth 100000 in
theorem op_3_85 : cAll 3 [] 1251 [(5, 0)] [(1, 1), (0, 3), (37, 37), cX, cX] = true := by decide +kernel
set_option maxRecDepth 100000 in
theorem op_3_86 : cAll 3 [] 1265 [(5, 0)] [(1, 1), (0, 3), (38, 38), cX, cX] = true := by decide +kernel
set_option maxRecDepth 100000 in
theorem op_3_87 : cAll 3 [] 1279 [(5, 0)] [(1, 1), (0, 3), (39, 39), cX, cX] = true := by decide +kernel
set_option maxRecDepth 100000 in
theorem op_3_88 : cAll 3 [] 1293 [(5, 0)] [(1, 1), (0, 3), (40, 40), cX, cX] = true := by decide +kernel
set_option maxRecDepth 100000 in
theorem op_3_89 : cAll 3 [] 1307 [(5, 0)] [(1, 1), (0, 3), (41, 41), cX, cX] = true := by decide +kernel
set_option maxRecDepth 100000 in
theorem op_3_90 : cAll 3 [] 1321 [(5, 0)] [(1, 1), (0, 3), (42, 42), cX, cX] = true := by decide +kernel
set_option maxRecDepth 100000 in
theorem op_3_91 : cAll 3 [] 1335 [(5, 0)] [(1, 1), (0, 3), (43, 43), cX, cX] = true := by decide +kernel
set_option maxRecDepth 100000 in
theorem op_3_92 : cAll 3 [] 1573 [(2, 44), (5, 0), (2, 45), (5, 0), (2, 46), (5, 0), (2, 47), (5, 0), (2, 48), (5, 0), (2, 49), (5, 0), (2, 50), (5, 0), (2, 51), (5, 0), (2, 52), (5, 0), (2, 53), (5, 0), (2, 54), (5, 0), (2, 55), (5, 0), (2, 56), (5, 0), (2, 57), (5, 0), (2, 58), (5, 0), (2, 59), (5, 0), (5, 0)] [(1, 1), (0, 3), (44, 60), cX, cX] = true := by decide +kernel
set_option maxRecDepth 100000 in
theorem op_3_93 : cAll 3 [] 733 [(5, 0)] [(2, 2), (0, 3), (0, 0), cX, cX] = true := by decide +kernel
set_option maxRecDepth 100000 in
theorem op_3_94 : cAll 3 [] 747 [(5, 0)] [(2, 2), (0, 3), (1, 1), cX, cX] = true := by decide +kernel
set_option maxRecDepth 100000 in
theorem op_3_95 : cAll 3 [] 761 [(5, 0)] [(2, 2), (0, 3), (2, 2), cX, cX] = true := by decide +kernel
set_option maxRecDepth 100000 in
theorem op_3_96 : cAll 3 [] 775 [(5, 0)] [(2, 2), (0, 3), (3, 3), cX, cX] = true := by decide +kernel
set_option maxRecDepth 100000 in
theorem op_3_97 : cAll 3 [] 789 [(5, 0)] [(2, 2), (0, 3), (4, 4), cX, cX] = true := by decide +kernel
set_option maxRecDepth 100000 in
theorem op_3_98 : cAll 3 [] 803 [(5, 0)] [(2, 2), (0, 3), (5, 5), cX, cX] = true := by decide +kernel
set_option maxRecDepth 100000 in
theorem op_3_99 : cAll 3 [] 817 [(5, 0)] [(2, 2), (0, 3), (6, 6), cX, cX] = true := by decide +kernel
set_option maxRecDepth 100000 in
theorem op_3_100 : cAll 3 [] 831 [(5, 0)] [(2, 2), (0, 3), (7, 7), cX, cX] = true := by decide +kernel
set_option maxRecDepth 100000 in
theorem op_3_101 : cAll 3 [] 845 [(5, 0)] [(2, 2), (0, 3), (8, 8), cX, cX] = true := by decide +kernel
set_option maxRecDepth 100000 in
theorem op_3_102 : cAll 3 [] 859 [(5, 0)] [(2, 2), (0, 3), (9, 9), cX, cX] = true := by decide +kernel
set_option maxRecDepth 100000 in
theorem op_3_103 : cAll 3 [] 873 [(5, 0)] [(2, 2), (0, 3), (10, 10), cX, cX] = true := by decide +kernel
set_option maxRecDepth 100000 in
theorem op_3_104 : cAll 3 [] 887 [(5, 0)] [(2, 2), (0, 3), (11, 11), cX, cX] = true := by decide +kernel
set_option maxRecDepth 100000 in
theorem op_3_105 : cAll 3 [] 901 [(5, 0)] [(2, 2), (0, 3), (12, 12), cX, cX] = true := by decide +kernel
set_option maxRecDepth 100000 in
theorem op_3_106 : cAll 3 [] 915 [(5, 0)] [(2, 2), (0, 3), (13, 13), cX, cX] = true := by decide +kernel
set_option maxRecDepth 100000 in
theorem op_3_107 : cAll 3 [] 929 [(5, 0)] [(2, 2), (0, 3), (14, 14), cX, cX] = true := by decide +kernel
set_option maxRecDepth 100000 in
theorem op_3_108 : cAll 3 [] 943 [(5, 0)] [(2, 2), (0, 3), (15, 15), cX, cX] = true := by decide +kernel
set_option maxRecDepth 100000 in
theorem op_3_109 : cAll 3 [] 957 [(5, 0)] [(2, 2), (0, 3), (16, 16), cX, cX] = true := by decide +kernel
set_option maxRecDepth 100000 in
theorem op_3_110 : cAll 3 [] 971 [(5, 0)] [(2, 2), (0, 3), (17, 17), cX, cX] = true := by decide +kernel
set_option maxRecDepth 100000 in
theorem op_3_111 : cAll 3 [] 985 [(5, 0)] [(2, 2), (0, 3), (18, 18), cX, cX] = true := by decide +kernel
set_option maxRecDepth 100000 in
theorem op_3_112 : cAll 3 [] 999 [(5, 0)] [(2, 2), (0, 3), (19, 19), cX, cX] = true := by decide +kernel
set_option maxRecDepth 100000 in
theorem op_3_113 : cAll 3 [] 1013 [(5, 0)] [(2, 2), (0, 3), (20, 20), cX, cX] = true := by decide +kernel
set_option maxRecDepth 100000 in
theorem op_3_114 : cAll 3 [] 1027 [(5, 0)] [(2, 2), (0, 3), (21, 21), cX, cX] = true := by decide +kernel
set_option maxRecDepth 100000 in
theorem op_3_115 : cAll 3 [] 1041 [(5, 0)] [(2, 2), (0, 3), (22, 22), cX, cX] = true := by decide +kernel
set_option maxRecDepth 100000 in
theorem op_3_116 : cAll 3 [] 1055 [(5, 0)] [(2, 2), (0, 3), (23, 23), cX, cX] = true := by decide +kernel
set_option maxRecDepth 100000 in
theorem op_3_117 : cAll 3 [] 1069 [(5, 0)] [(2, 2), (0, 3), (24, 24), cX, cX] = true := by decide +kernel
set_option maxRecDepth 100000 in
theorem op_3_118 : cAll 3 [] 1083 [(5, 0)] [(2, 2), (0, 3), (25, 25), cX, cX] = true := by decide +kernel
set_option maxRecDepth 100000 in
theorem op_3_119 : cAll 3 [] 1097 [(5, 0)] [(2, 2), (0, 3), (26, 26), cX, cX] = true := by decide +kernel
set_option maxRecDepth 100000 in
theorem op_3_120 : cAll 3 [] 1111 [(5, 0)] [(2, 2), (0, 3), (27, 27), cX, cX] = true := by decide +kernel
set_option maxRecDepth 100000 in
theorem op_3_121 : cAll 3 [] 1125 [(5, 0)] [(2, 2), (0, 3), (28, 28), cX, cX] = true := by decide +kernel
set_option maxRecDepth 100000 in
theorem op_3_122 : cAll 3 [] 1139 [(5, 0)] [(2, 2), (0, 3), (29, 29), cX, cX] = true := by decide +kernel
set_option maxRecDepth 100000 in
theorem op_3_123 : cAll 3 [] 1153 [(5, 0)] [(2, 2), (0, 3), (30, 30), cX, cX] = true := by decide +kernel
set_option maxRecDepth 100000 in
theorem op_3_124 : cAll 3 [] 1167 [(5, 0)] [(2, 2), (0, 3), (31, 31), cX, cX] = true := by decide +kernel
set_option maxRecDepth 100000 in
theorem op_3_125 : cAll 3 [] 1181 [(5, 0)] [(2, 2), (0, 3), (32, 32), cX, cX] = true := by decide +kernel
set_option maxRecDepth 100000 in
theorem op_3_126 : cAll 3 [] 1195 [(5, 0)] [(2, 2), (0, 3), (33, 33), cX, cX] = true := by decide +kernel
set_option maxRecDepth 100000 in
theorem op_3_127 : cAll 3 [] 1209 [(5, 0)] [(2, 2), (0, 3), (34, 34), cX, cX] = true := by decide +kernel
set_option maxRecDepth 100000 in
theorem op_3_128 : cAll 3 [] 1223 [(5, 0)] [(2, 2), (0, 3), (35, 35), cX, cX] = true := by decide +kernel
set_option maxRecDepth 100000 in
theorem op_3_129 : cAll 3 [] 1237 [(5, 0)] [(2, 2), (0, 3), (36, 36), cX, cX] = true := by decide +kernel
set_option maxRecDepth 100000 in
theorem op_3_130 : cAll 3 [] 1251 [(5, 0)] [(2, 2), (0, 3), (37, 37), cX, cX] = true := by decide +kernel
set_option maxRecDepth 100000 in
theorem op_3_131 : cAll 3 [] 1265 [(5, 0)] [(2, 2), (0, 3), (38, 38), cX, cX] = true := by decide +kernel
set_option maxRecDepth 100000 in
theorem op_3_132 : cAll 3 [] 1279 [(5, 0)] [(2, 2), (0, 3), (39, 39), cX, cX] = true := by decide +kernel
set_option maxRecDepth 100000 in
theorem op_3_133 : cAll 3 [] 1293 [(5, 0)] [(2, 2), (0, 3), (40, 40), cX, cX] = true := by decide +kernel
set_option maxRecDepth 100000 in
theorem op_3_134 : cAll 3 [] 1307 [(5, 0)] [(2, 2), (0, 3), (41, 41), cX, cX] = true := by decide +kernel
set_option maxRecDepth 100000 in
theorem op_3_135 : cAll 3 [] 1321 [(5, 0)] [(2, 2), (0, 3), (42, 42), cX, cX] = true := by decide +kernel
set_option maxRecDepth 100000 in
theorem op_3_136 : cAll 3 [] 1335 [(5, 0)] [(2, 2), (0, 3), (43, 43), cX, cX] = true := by decide +kernel
set_option maxRecDepth 100000 in
theorem op_3_137 : cAll 3 [] 1573 [(2, 44), (5, 0), (2, 45), (5, 0), (2, 46), (5, 0), (2, 47), (5, 0), (2, 48), (5, 0), (2, 49), (5, 0), (2, 50), (5, 0), (2, 51), (5, 0), (2, 52), (5, 0), (2, 53), (5, 0), (2, 54), (5, 0), (2, 55), (5, 0), (2, 56), (5, 0), (2, 57), (5, 0), (2, 58), (5, 0), (2, 59), (5, 0), (5, 0)] [(2, 2), (0, 3), (44, 60), cX, cX] = true := by decide +kernel
set_option maxRecDepth 100000 in
theorem op_3_138 : cAll 3 [] 733 [(5, 0)] [(3, 3), (0, 3), (0, 0), cX, cX] = true := by decide +kernel
set_option maxRecDepth 100000 in
theorem op_3_139 : cAll 3 [] 747 [(5, 0)] [(3, 3), (0, 3), (1, 1), cX, cX] = true := by decide +kernel
set_option maxRecDepth 100000 in
theorem op_3_140 : cAll 3 [] 761 [(5, 0)] [(3, 3), (0, 3), (2, 2), cX, cX] = true := by decide +kernel
set_option maxRecDepth 100000 in
theorem op_3_141 : cAll 3 [] 775 [(5, 0)] [(3, 3), (0, 3), (3, 3), cX, cX] = true := by decide +kernel
set_option maxRecDepth 100000 in
theorem op_3_142 : cAll 3 [] 789 [(5, 0)] [(3, 3), (0, 3), (4, 4), cX, cX] = true := by decide +kernel
set_option maxRecDepth 100000 in
theorem op_3_143 : cAll 3 [] 803 [(5, 0)] [(3, 3), (0, 3), (5, 5), cX, cX] = true := by decide +kernel
set_option maxRecDepth 100000 in
theorem op_3_144 : cAll 3 [] 817 [(5, 0)] [(3, 3), (0, 3), (6, 6), cX, cX] = true := by decide +kernel
set_option maxRecDepth 100000 in
theorem op_3_145 : cAll 3 [] 831 [(5, 0)] [(3, 3), (0, 3), (7, 7), cX, cX] = true := by decide +kernel
set_option maxRecDepth 100000 in
theorem op_3_146 : cAll 3 [] 845 [(5, 0)] [(3, 3), (0, 3), (8, 8), cX, cX] = true := by decide +kernel
set_option maxRecDepth 100000 in
theorem op_3_147 : cAll 3 [] 859 [(5, 0)] [(3, 3), (0, 3), (9, 9), cX, cX] = true := by decide +kernel
set_option maxRecDepth 100000 in
theorem op_3_148 : cAll 3 [] 873 [(5, 0)] [(3, 3), (0, 3), (10, 10), cX, cX] = true := by decide +kernel
set_option maxRecDepth 100000 in
theorem op_3_149 : cAll 3 [] 887 [(5, 0)] [(3, 3), (0, 3), (11, 11), cX, cX] = true := by decide +kernel
