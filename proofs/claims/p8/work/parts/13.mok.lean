theorem xmok_0 : (List.range 16).all (fun j => xmok (0 + j)) = true := by decide +kernel
theorem xmok_1 : (List.range 16).all (fun j => xmok (16 + j)) = true := by decide +kernel
theorem xmok_2 : (List.range 16).all (fun j => xmok (32 + j)) = true := by decide +kernel
theorem xmok_3 : (List.range 16).all (fun j => xmok (48 + j)) = true := by decide +kernel
theorem xmok_4 : (List.range 16).all (fun j => xmok (64 + j)) = true := by decide +kernel
theorem xmok_5 : (List.range 16).all (fun j => xmok (80 + j)) = true := by decide +kernel
theorem xmok_6 : (List.range 16).all (fun j => xmok (96 + j)) = true := by decide +kernel
theorem xmok_7 : (List.range 16).all (fun j => xmok (112 + j)) = true := by decide +kernel
theorem xmok_8 : (List.range 16).all (fun j => xmok (128 + j)) = true := by decide +kernel
theorem xmok_9 : (List.range 16).all (fun j => xmok (144 + j)) = true := by decide +kernel
theorem xmok_10 : (List.range 16).all (fun j => xmok (160 + j)) = true := by decide +kernel
theorem xmok_11 : (List.range 16).all (fun j => xmok (176 + j)) = true := by decide +kernel
theorem xmok_12 : (List.range 16).all (fun j => xmok (192 + j)) = true := by decide +kernel
theorem xmok_13 : (List.range 16).all (fun j => xmok (208 + j)) = true := by decide +kernel
theorem xmok_14 : (List.range 16).all (fun j => xmok (224 + j)) = true := by decide +kernel
theorem xmok_15 : (List.range 16).all (fun j => xmok (240 + j)) = true := by decide +kernel
theorem xmok_16 : (List.range 16).all (fun j => xmok (256 + j)) = true := by decide +kernel
theorem xmok_17 : (List.range 16).all (fun j => xmok (272 + j)) = true := by decide +kernel
theorem xmok_18 : (List.range 16).all (fun j => xmok (288 + j)) = true := by decide +kernel
theorem xmok_19 : (List.range 16).all (fun j => xmok (304 + j)) = true := by decide +kernel
theorem xmok_20 : (List.range 16).all (fun j => xmok (320 + j)) = true := by decide +kernel
theorem xmok_21 : (List.range 16).all (fun j => xmok (336 + j)) = true := by decide +kernel
theorem xmok_22 : (List.range 4).all (fun j => xmok (352 + j)) = true := by decide +kernel
theorem xmok_all : ∀ y, y < 356 → xmok y = true := by
  intro y hy
  have key : ∀ (a n : Nat), (List.range n).all (fun j => xmok (a + j)) = true → a ≤ y → y < a + n → xmok y = true := by
    intro a n h h1 h2
    have h3 := List.all_eq_true.mp h (y - a) (List.mem_range.mpr (by omega))
    rw [show a + (y - a) = y by omega] at h3
    exact h3
  by_cases h0 : y < 16
  · exact key 0 16 xmok_0 (by omega) (by omega)
  by_cases h1 : y < 32
  · exact key 16 16 xmok_1 (by omega) (by omega)
  by_cases h2 : y < 48
  · exact key 32 16 xmok_2 (by omega) (by omega)
  by_cases h3 : y < 64
  · exact key 48 16 xmok_3 (by omega) (by omega)
  by_cases h4 : y < 80
  · exact key 64 16 xmok_4 (by omega) (by omega)
  by_cases h5 : y < 96
  · exact key 80 16 xmok_5 (by omega) (by omega)
  by_cases h6 : y < 112
  · exact key 96 16 xmok_6 (by omega) (by omega)
  by_cases h7 : y < 128
  · exact key 112 16 xmok_7 (by omega) (by omega)
  by_cases h8 : y < 144
  · exact key 128 16 xmok_8 (by omega) (by omega)
  by_cases h9 : y < 160
  · exact key 144 16 xmok_9 (by omega) (by omega)
  by_cases h10 : y < 176
  · exact key 160 16 xmok_10 (by omega) (by omega)
  by_cases h11 : y < 192
  · exact key 176 16 xmok_11 (by omega) (by omega)
  by_cases h12 : y < 208
  · exact key 192 16 xmok_12 (by omega) (by omega)
  by_cases h13 : y < 224
  · exact key 208 16 xmok_13 (by omega) (by omega)
  by_cases h14 : y < 240
  · exact key 224 16 xmok_14 (by omega) (by omega)
  by_cases h15 : y < 256
  · exact key 240 16 xmok_15 (by omega) (by omega)
  by_cases h16 : y < 272
  · exact key 256 16 xmok_16 (by omega) (by omega)
  by_cases h17 : y < 288
  · exact key 272 16 xmok_17 (by omega) (by omega)
  by_cases h18 : y < 304
  · exact key 288 16 xmok_18 (by omega) (by omega)
  by_cases h19 : y < 320
  · exact key 304 16 xmok_19 (by omega) (by omega)
  by_cases h20 : y < 336
  · exact key 320 16 xmok_20 (by omega) (by omega)
  by_cases h21 : y < 352
  · exact key 336 16 xmok_21 (by omega) (by omega)
  by_cases h22 : y < 356
  · exact key 352 4 xmok_22 (by omega) (by omega)
  omega
theorem xcw_0 : xpw 2171 = some (Cond.code ⟨"LaterPrints$Ahead", "<init>", "()V"⟩ prog_2_method_1_code 1 none) := rfl
theorem xcw_1 : xpw 5158 = some (Cond.code ⟨"LaterPrints$Ahead", "goTo", "(LLaterPrints$World;I)V"⟩ prog_2_method_2_code 4 none) := rfl
theorem xcw_2 : xpw 5189 = some (Cond.code ⟨"LaterPrints$Ahead", "lookAtSights", "(LLaterPrints$World;I)V"⟩ prog_2_method_3_code 4 none) := rfl
theorem xcw_3 : xpw 5205 = some (Cond.code ⟨"LaterPrints$Ahead", "lookAtPerson", "(LLaterPrints$World;II)V"⟩ prog_2_method_4_code 5 none) := rfl
theorem xcw_4 : xpw 5176 = some (Cond.code ⟨"LaterPrints$Ahead", "firstShowing", "(LLaterPrints$World;I)I"⟩ prog_2_method_5_code 4 (some .int)) := rfl
theorem xcw_5 : xpw 5232 = some (Cond.code ⟨"LaterPrints$Ahead", "bestCover", "(LLaterPrints$World;II)J"⟩ prog_2_method_6_code 7 (some .long)) := rfl
theorem xcw_6 : xpw 6001 = some (Cond.code ⟨"LaterPrints$Ahead", "addPrint", "(IJ)V"⟩ prog_2_method_7_code 7 none) := rfl
theorem xcw_7 : xpw 6005 = some (Cond.code ⟨"LaterPrints$Ahead", "costIn", "(J)I"⟩ prog_2_method_8_code 2 (some .int)) := rfl
theorem xcw_8 : xpw 6012 = some (Cond.code ⟨"LaterPrints$Ahead", "printsIn", "(J)I"⟩ prog_2_method_9_code 2 (some .int)) := rfl
theorem xcw_9 : xpw 1124 = some (Cond.code ⟨"LaterPrints$Folk", "<init>", "()V"⟩ prog_3_method_1_code 1 none) := rfl
theorem xcw_10 : xpw 4083 = some (Cond.code ⟨"LaterPrints$Folk", "takeOver", "(LLaterPrints$Folk;)V"⟩ prog_3_method_2_code 2 none) := rfl
theorem xcw_11 : xpw 4067 = some (Cond.code ⟨"LaterPrints$Folk", "begin", "()V"⟩ prog_3_method_3_code 2 none) := rfl
theorem xcw_12 : xpw 4191 = some (Cond.code ⟨"LaterPrints$Folk", "cellNow", "(I)I"⟩ prog_3_method_4_code 2 (some .int)) := rfl
theorem xcw_13 : xpw 4234 = some (Cond.code ⟨"LaterPrints$Folk", "standing", "(I)I"⟩ prog_3_method_5_code 3 (some .int)) := rfl
theorem xcw_14 : xpw 5094 = some (Cond.code ⟨"LaterPrints$Folk", "isFree", "(ILLaterPrints$Room;)Z"⟩ prog_3_method_6_code 4 (some .boolean)) := rfl
theorem xcw_15 : xpw 4017 = some (Cond.code ⟨"LaterPrints$Folk", "isHome", "(I)Z"⟩ prog_3_method_7_code 3 (some .boolean)) := rfl
theorem xcw_16 : xpw 4178 = some (Cond.code ⟨"LaterPrints$Folk", "setIn", "(I)I"⟩ prog_3_method_8_code 4 (some .int)) := rfl
theorem xcw_17 : xpw 5216 = some (Cond.code ⟨"LaterPrints$Folk", "isAs", "(LLaterPrints$Folk;)Z"⟩ prog_3_method_9_code 3 (some .boolean)) := rfl
theorem xcw_18 : xpw 5082 = some (Cond.code ⟨"LaterPrints$Folk", "goOn", "(LLaterPrints$Room;)V"⟩ prog_3_method_10_code 3 none) := rfl
theorem xcw_19 : xpw 5086 = some (Cond.code ⟨"LaterPrints$Folk", "enter", "(ILLaterPrints$Room;)V"⟩ prog_3_method_11_code 3 none) := rfl
theorem xcw_20 : xpw 5098 = some (Cond.code ⟨"LaterPrints$Folk", "walk", "(ILLaterPrints$Room;)V"⟩ prog_3_method_12_code 4 none) := rfl
theorem xcw_21 : xpw 5090 = some (Cond.code ⟨"LaterPrints$Folk", "mustLeave", "(I)Z"⟩ prog_3_method_13_code 2 (some .boolean)) := rfl
theorem xcw_22 : xpw 5102 = some (Cond.code ⟨"LaterPrints$Folk", "stepNow", "(I)I"⟩ prog_3_method_14_code 3 (some .int)) := rfl
theorem xcw_23 : xpw 1037 = some (Cond.code ⟨"LaterPrints$Reader", "<init>", "()V"⟩ prog_4_method_1_code 1 none) := rfl
theorem xcw_24 : xpw 3118 = some (Cond.code ⟨"LaterPrints$Reader", "open", "(I)V"⟩ prog_4_method_2_code 2 none) := rfl
theorem xcw_25 : xpw 3125 = some (Cond.code ⟨"LaterPrints$Reader", "advance", "()V"⟩ prog_4_method_3_code 1 none) := rfl
theorem xcw_26 : xpw 3129 = some (Cond.code ⟨"LaterPrints$Reader", "isLetter", "(I)Z"⟩ prog_4_method_4_code 2 (some .boolean)) := rfl
theorem xcw_27 : xpw 3191 = some (Cond.code ⟨"LaterPrints$Reader", "isDigit", "(I)Z"⟩ prog_4_method_5_code 2 (some .boolean)) := rfl
theorem xcw_28 : xpw 3133 = some (Cond.code ⟨"LaterPrints$Reader", "scanWord", "()V"⟩ prog_4_method_6_code 1 none) := rfl
theorem xcw_29 : xpw 3195 = some (Cond.code ⟨"LaterPrints$Reader", "scanNumber", "()V"⟩ prog_4_method_7_code 1 none) := rfl
theorem xcw_30 : xpw 3199 = some (Cond.code ⟨"LaterPrints$Reader", "scanSign", "()V"⟩ prog_4_method_8_code 1 none) := rfl
theorem xcw_31 : xpw 3138 = some (Cond.code ⟨"LaterPrints$Reader", "wordNumber", "()I"⟩ prog_4_method_9_code 6 (some .int)) := rfl
theorem xcw_32 : xpw 3203 = some (Cond.code ⟨"LaterPrints$Reader", "isAtEnd", "()Z"⟩ prog_4_method_10_code 1 (some .boolean)) := rfl
theorem xcw_33 : xpw 3215 = some (Cond.code ⟨"LaterPrints$Reader", "wrong", "(I)Z"⟩ prog_4_method_11_code 2 (some .boolean)) := rfl
theorem xcw_34 : xpw 3226 = some (Cond.code ⟨"LaterPrints$Reader", "passWord", "(I)Z"⟩ prog_4_method_12_code 2 (some .boolean)) := rfl
theorem xcw_35 : xpw 3230 = some (Cond.code ⟨"LaterPrints$Reader", "passClose", "()Z"⟩ prog_4_method_13_code 1 (some .boolean)) := rfl
theorem xcw_36 : xpw 4160 = some (Cond.code ⟨"LaterPrints$Reader", "isCompare", "()Z"⟩ prog_4_method_14_code 1 (some .boolean)) := rfl
theorem xcw_37 : xpw 3220 = some (Cond.code ⟨"LaterPrints$Reader", "isNumber", "(II)Z"⟩ prog_4_method_15_code 3 (some .boolean)) := rfl
theorem xcw_38 : xpw 4029 = some (Cond.code ⟨"LaterPrints$Reader", "isName", "()Z"⟩ prog_4_method_16_code 1 (some .boolean)) := rfl
theorem xcw_39 : xpw 4057 = some (Cond.code ⟨"LaterPrints$Reader", "isNameOf", "([JI)Z"⟩ prog_4_method_17_code 3 (some .boolean)) := rfl
theorem xcw_40 : xpw 4032 = some (Cond.code ⟨"LaterPrints$Reader", "indexOf", "([JIJ)I"⟩ prog_4_method_18_code 5 (some .int)) := rfl
theorem xcw_41 : xpw 1096 = some (Cond.code ⟨"LaterPrints$Room", "<init>", "()V"⟩ prog_5_method_1_code 1 none) := rfl
theorem xcw_42 : xpw 4079 = some (Cond.code ⟨"LaterPrints$Room", "takeOver", "(LLaterPrints$Room;)V"⟩ prog_5_method_2_code 2 none) := rfl
theorem xcw_43 : xpw 4009 = some (Cond.code ⟨"LaterPrints$Room", "cellOf", "(II)I"⟩ prog_5_method_3_code 2 (some .int)) := rfl
theorem xcw_44 : xpw 4197 = some (Cond.code ⟨"LaterPrints$Room", "columnOf", "(I)I"⟩ prog_5_method_4_code 1 (some .int)) := rfl
theorem xcw_45 : xpw 4203 = some (Cond.code ⟨"LaterPrints$Room", "rowOf", "(I)I"⟩ prog_5_method_5_code 1 (some .int)) := rfl
theorem xcw_46 : xpw 4229 = some (Cond.code ⟨"LaterPrints$Room", "hasCell", "(II)Z"⟩ prog_5_method_6_code 3 (some .boolean)) := rfl
theorem xcw_47 : xpw 4013 = some (Cond.code ⟨"LaterPrints$Room", "isWall", "(I)Z"⟩ prog_5_method_7_code 2 (some .boolean)) := rfl
theorem xcw_48 : xpw 5106 = some (Cond.code ⟨"LaterPrints$Room", "beside", "(II)I"⟩ prog_5_method_8_code 5 (some .int)) := rfl
theorem xcw_49 : xpw 6094 = some (Cond.code ⟨"LaterPrints$Room", "goneAlone", "(II)I"⟩ prog_5_method_9_code 4 (some .int)) := rfl
theorem xcw_50 : xpw 2106 = some (Cond.code ⟨"LaterPrints$RunReader", "<init>", "(LLaterPrints$Reader;)V"⟩ prog_6_method_1_code 2 none) := rfl
theorem xcw_51 : xpw 4108 = some (Cond.code ⟨"LaterPrints$RunReader", "reads", "(LLaterPrints$World;I)Z"⟩ prog_6_method_2_code 5 (some .boolean)) := rfl
theorem xcw_52 : xpw 4125 = some (Cond.code ⟨"LaterPrints$RunReader", "mayBegin", "()Z"⟩ prog_6_method_3_code 2 (some .boolean)) := rfl
theorem xcw_53 : xpw 4115 = some (Cond.code ⟨"LaterPrints$RunReader", "readEnd", "()Z"⟩ prog_6_method_4_code 2 (some .boolean)) := rfl
theorem xcw_54 : xpw 4130 = some (Cond.code ⟨"LaterPrints$RunReader", "readAct", "(LLaterPrints$World;)Z"⟩ prog_6_method_5_code 3 (some .boolean)) := rfl
theorem xcw_55 : xpw 4148 = some (Cond.code ⟨"LaterPrints$RunReader", "openEntry", "()V"⟩ prog_6_method_6_code 1 none) := rfl
theorem xcw_56 : xpw 4134 = some (Cond.code ⟨"LaterPrints$RunReader", "readBuy", "(LLaterPrints$World;)Z"⟩ prog_6_method_7_code 3 (some .boolean)) := rfl
theorem xcw_57 : xpw 4140 = some (Cond.code ⟨"LaterPrints$RunReader", "readCounted", "(II)Z"⟩ prog_6_method_8_code 3 (some .boolean)) := rfl
theorem xcw_58 : xpw 4144 = some (Cond.code ⟨"LaterPrints$RunReader", "readGive", "(LLaterPrints$World;)Z"⟩ prog_6_method_9_code 3 (some .boolean)) := rfl
theorem xcw_59 : xpw 4152 = some (Cond.code ⟨"LaterPrints$RunReader", "readTest", "(LLaterPrints$World;)Z"⟩ prog_6_method_10_code 5 (some .boolean)) := rfl
theorem xcw_60 : xpw 4156 = some (Cond.code ⟨"LaterPrints$RunReader", "readCoinTest", "(LLaterPrints$World;)Z"⟩ prog_6_method_11_code 4 (some .boolean)) := rfl
theorem xcw_61 : xpw 2128 = some (Cond.code ⟨"LaterPrints$Runner", "<init>", "()V"⟩ prog_7_method_1_code 1 none) := rfl
theorem xcw_62 : xpw 6139 = some (Cond.code ⟨"LaterPrints$Runner", "run", "(LLaterPrints$World;I)V"⟩ prog_7_method_2_code 6 none) := rfl
theorem xcw_63 : xpw 6145 = some (Cond.code ⟨"LaterPrints$Runner", "behindEnd", "(LLaterPrints$Runs;I)I"⟩ prog_7_method_3_code 4 (some .int)) := rfl
theorem xcw_64 : xpw 6149 = some (Cond.code ⟨"LaterPrints$Runner", "behindAct", "(LLaterPrints$World;I)I"⟩ prog_7_method_4_code 6 (some .int)) := rfl
theorem xcw_65 : xpw 6178 = some (Cond.code ⟨"LaterPrints$Runner", "isSo", "(LLaterPrints$World;I)Z"⟩ prog_7_method_5_code 4 (some .boolean)) := rfl
theorem xcw_66 : xpw 6153 = some (Cond.code ⟨"LaterPrints$Runner", "buyAll", "(LLaterPrints$World;II)V"⟩ prog_7_method_6_code 5 none) := rfl
theorem xcw_67 : xpw 6160 = some (Cond.code ⟨"LaterPrints$Runner", "skipAll", "(LLaterPrints$World;I)V"⟩ prog_7_method_7_code 4 none) := rfl
theorem xcw_68 : xpw 6165 = some (Cond.code ⟨"LaterPrints$Runner", "handOn", "(LLaterPrints$World;II)V"⟩ prog_7_method_8_code 5 none) := rfl
theorem xcw_69 : xpw 6174 = some (Cond.code ⟨"LaterPrints$Runner", "drawBuyer", "(I)I"⟩ prog_7_method_9_code 2 (some .int)) := rfl
theorem xcw_70 : xpw 1214 = some (Cond.code ⟨"LaterPrints$Runs", "<init>", "()V"⟩ prog_8_method_1_code 1 none) := rfl
theorem xcw_71 : xpw 2016 = some (Cond.code ⟨"LaterPrints$Runs", "forget", "()V"⟩ prog_8_method_2_code 1 none) := rfl
theorem xcw_72 : xpw 4093 = some (Cond.code ⟨"LaterPrints$Runs", "takeOver", "(LLaterPrints$Runs;)V"⟩ prog_8_method_3_code 2 none) := rfl
theorem xcw_73 : xpw 4120 = some (Cond.code ⟨"LaterPrints$Runs", "add", "(III)V"⟩ prog_8_method_4_code 4 none) := rfl
theorem xcw_74 : xpw 2084 = some (Cond.code ⟨"LaterPrints$SceneReader", "<init>", "(LLaterPrints$Reader;)V"⟩ prog_9_method_1_code 2 none) := rfl
theorem xcw_75 : xpw 3113 = some (Cond.code ⟨"LaterPrints$SceneReader", "reads", "(I)Z"⟩ prog_9_method_2_code 4 (some .boolean)) := rfl
theorem xcw_76 : xpw 3211 = some (Cond.code ⟨"LaterPrints$SceneReader", "hasSize", "()Z"⟩ prog_9_method_3_code 1 (some .boolean)) := rfl
theorem xcw_77 : xpw 3207 = some (Cond.code ⟨"LaterPrints$SceneReader", "readSize", "()Z"⟩ prog_9_method_4_code 2 (some .boolean)) := rfl
theorem xcw_78 : xpw 3234 = some (Cond.code ⟨"LaterPrints$SceneReader", "readPrice", "()Z"⟩ prog_9_method_5_code 1 (some .boolean)) := rfl
theorem xcw_79 : xpw 4006 = some (Cond.code ⟨"LaterPrints$SceneReader", "readCell", "()Z"⟩ prog_9_method_6_code 2 (some .boolean)) := rfl
theorem xcw_80 : xpw 4002 = some (Cond.code ⟨"LaterPrints$SceneReader", "passFreshCell", "()Z"⟩ prog_9_method_7_code 1 (some .boolean)) := rfl
theorem xcw_81 : xpw 3238 = some (Cond.code ⟨"LaterPrints$SceneReader", "readWall", "()Z"⟩ prog_9_method_8_code 1 (some .boolean)) := rfl
theorem xcw_82 : xpw 4025 = some (Cond.code ⟨"LaterPrints$SceneReader", "isNewName", "()Z"⟩ prog_9_method_9_code 2 (some .boolean)) := rfl
theorem xcw_83 : xpw 4021 = some (Cond.code ⟨"LaterPrints$SceneReader", "readPerson", "()Z"⟩ prog_9_method_10_code 3 (some .boolean)) := rfl
theorem xcw_84 : xpw 4036 = some (Cond.code ⟨"LaterPrints$SceneReader", "readTimes", "(I)Z"⟩ prog_9_method_11_code 3 (some .boolean)) := rfl
theorem xcw_85 : xpw 4044 = some (Cond.code ⟨"LaterPrints$SceneReader", "isStep", "()Z"⟩ prog_9_method_12_code 1 (some .boolean)) := rfl
theorem xcw_86 : xpw 4040 = some (Cond.code ⟨"LaterPrints$SceneReader", "readSteps", "(I)Z"⟩ prog_9_method_13_code 3 (some .boolean)) := rfl
theorem xcw_87 : xpw 4049 = some (Cond.code ⟨"LaterPrints$SceneReader", "readSight", "()Z"⟩ prog_9_method_14_code 3 (some .boolean)) := rfl
theorem xcw_88 : xpw 4053 = some (Cond.code ⟨"LaterPrints$SceneReader", "readSeen", "(I)Z"⟩ prog_9_method_15_code 3 (some .boolean)) := rfl
theorem xcw_89 : xpw 4063 = some (Cond.code ⟨"LaterPrints$SceneReader", "readBuyer", "()Z"⟩ prog_9_method_16_code 2 (some .boolean)) := rfl
theorem xcw_90 : xpw 1180 = some (Cond.code ⟨"LaterPrints$Sights", "<init>", "()V"⟩ prog_10_method_1_code 1 none) := rfl
theorem xcw_91 : xpw 4088 = some (Cond.code ⟨"LaterPrints$Sights", "takeOver", "(LLaterPrints$Sights;)V"⟩ prog_10_method_2_code 2 none) := rfl
theorem xcw_92 : xpw 4182 = some (Cond.code ⟨"LaterPrints$Sights", "shownBy", "(LLaterPrints$Folk;)I"⟩ prog_10_method_3_code 4 (some .int)) := rfl
theorem xcw_93 : xpw 4186 = some (Cond.code ⟨"LaterPrints$Sights", "isShown", "(ILLaterPrints$Folk;)Z"⟩ prog_10_method_4_code 5 (some .boolean)) := rfl
theorem xcw_94 : xpw 4194 = some (Cond.code ⟨"LaterPrints$Sights", "areBeside", "(II)Z"⟩ prog_10_method_5_code 4 (some .boolean)) := rfl
theorem xcw_95 : xpw 2195 = some (Cond.code ⟨"LaterPrints$Tracks", "<init>", "()V"⟩ prog_11_method_1_code 1 none) := rfl
theorem xcw_96 : xpw 6071 = some (Cond.code ⟨"LaterPrints$Tracks", "load", "([JILLaterPrints$Room;)Z"⟩ prog_11_method_2_code 8 (some .boolean)) := rfl
theorem xcw_97 : xpw 6082 = some (Cond.code ⟨"LaterPrints$Tracks", "countRows", "(LLaterPrints$Room;I)I"⟩ prog_11_method_3_code 6 (some .int)) := rfl
theorem xcw_98 : xpw 6086 = some (Cond.code ⟨"LaterPrints$Tracks", "writeRow", "(II)V"⟩ prog_11_method_4_code 5 none) := rfl
theorem xcw_99 : xpw 6090 = some (Cond.code ⟨"LaterPrints$Tracks", "leadsAlong", "(LLaterPrints$Room;I)Z"⟩ prog_11_method_5_code 6 (some .boolean)) := rfl
theorem xcw_100 : xpw 6117 = some (Cond.code ⟨"LaterPrints$Tracks", "countWays", "(LLaterPrints$Room;III)J"⟩ prog_11_method_6_code 7 (some .long)) := rfl
theorem xcw_101 : xpw 6122 = some (Cond.code ⟨"LaterPrints$Tracks", "goAllWays", "(LLaterPrints$Room;)V"⟩ prog_11_method_7_code 4 none) := rfl
theorem xcw_102 : xpw 6130 = some (Cond.code ⟨"LaterPrints$Tracks", "originSet", "(LLaterPrints$Room;II)I"⟩ prog_11_method_8_code 8 (some .int)) := rfl
theorem xcw_103 : xpw 1090 = some (Cond.code ⟨"LaterPrints$World", "<init>", "()V"⟩ prog_12_method_1_code 1 none) := rfl
theorem xcw_104 : xpw 2012 = some (Cond.code ⟨"LaterPrints$World", "empty", "()V"⟩ prog_12_method_2_code 1 none) := rfl
theorem xcw_105 : xpw 4075 = some (Cond.code ⟨"LaterPrints$World", "takeOver", "(LLaterPrints$World;)V"⟩ prog_12_method_3_code 2 none) := rfl
theorem xcw_106 : xpw 4174 = some (Cond.code ⟨"LaterPrints$World", "priceAt", "(I)I"⟩ prog_12_method_4_code 2 (some .int)) := rfl
theorem xcw_107 : xpw 5069 = some (Cond.code ⟨"LaterPrints$World", "costAhead", "(I)I"⟩ prog_12_method_5_code 2 (some .int)) := rfl
theorem xcw_108 : xpw 5065 = some (Cond.code ⟨"LaterPrints$World", "canMake", "(I)Z"⟩ prog_12_method_6_code 2 (some .boolean)) := rfl
theorem xcw_109 : xpw 5061 = some (Cond.code ⟨"LaterPrints$World", "canBuy", "(II)Z"⟩ prog_12_method_7_code 3 (some .boolean)) := rfl
theorem xcw_110 : xpw 5074 = some (Cond.code ⟨"LaterPrints$World", "makePrint", "(I)V"⟩ prog_12_method_8_code 3 none) := rfl
theorem xcw_111 : xpw 5078 = some (Cond.code ⟨"LaterPrints$World", "keepFor", "(II)V"⟩ prog_12_method_9_code 3 none) := rfl
theorem xcw_112 : xpw 5047 = some (Cond.code ⟨"LaterPrints$World", "ownerOf", "(I)I"⟩ prog_12_method_10_code 2 (some .int)) := rfl
theorem xcw_113 : xpw 4221 = some (Cond.code ⟨"LaterPrints$World", "printsOf", "(I)I"⟩ prog_12_method_11_code 4 (some .int)) := rfl
theorem xcw_114 : xpw 4217 = some (Cond.code ⟨"LaterPrints$World", "ownedPrints", "()I"⟩ prog_12_method_12_code 1 (some .int)) := rfl
theorem xcw_115 : xpw 6169 = some (Cond.code ⟨"LaterPrints$World", "latestPrintOf", "(I)I"⟩ prog_12_method_13_code 3 (some .int)) := rfl
theorem xcw_116 : xpw 4213 = some (Cond.code ⟨"LaterPrints$World", "allCoins", "()I"⟩ prog_12_method_14_code 3 (some .int)) := rfl
theorem xcw_117 : xpw 1027 = some (Cond.code ⟨"LaterPrints", "<init>", "()V"⟩ prog_1_method_1_code 2 none) := rfl
theorem xcw_118 : xpw 3042 = some (Cond.code ⟨"LaterPrints", "status", "()I"⟩ prog_1_method_2_code 1 (some .int)) := rfl
theorem xcw_119 : xpw 3046 = some (Cond.code ⟨"LaterPrints", "top", "()J"⟩ prog_1_method_3_code 1 (some .long)) := rfl
theorem xcw_120 : xpw 3050 = some (Cond.code ⟨"LaterPrints", "bottom", "()J"⟩ prog_1_method_4_code 1 (some .long)) := rfl
theorem xcw_121 : xpw 4099 = some (Cond.code ⟨"LaterPrints", "answer", "(I)I"⟩ prog_1_method_5_code 2 (some .int)) := rfl
theorem xcw_122 : xpw 3090 = some (Cond.code ⟨"LaterPrints", "refuse", "(I)I"⟩ prog_1_method_6_code 2 (some .int)) := rfl
theorem xcw_123 : xpw 3071 = some (Cond.code ⟨"LaterPrints", "accept", "()Z"⟩ prog_1_method_7_code 1 (some .boolean)) := rfl
theorem xcw_124 : xpw 3064 = some (Cond.code ⟨"LaterPrints", "reject", "(I)Z"⟩ prog_1_method_8_code 2 (some .boolean)) := rfl
theorem xcw_125 : xpw 4239 = some (Cond.code ⟨"LaterPrints", "answerFound", "(I)I"⟩ prog_1_method_9_code 2 (some .int)) := rfl
theorem xcw_126 : xpw 6043 = some (Cond.code ⟨"LaterPrints", "tellFraction", "(JJ)V"⟩ prog_1_method_10_code 12 none) := rfl
theorem xcw_127 : xpw 3060 = some (Cond.code ⟨"LaterPrints", "isWithin", "(III)Z"⟩ prog_1_method_11_code 3 (some .boolean)) := rfl
theorem xcw_128 : xpw 5012 = some (Cond.code ⟨"LaterPrints", "isPerson", "(I)Z"⟩ prog_1_method_12_code 2 (some .boolean)) := rfl
theorem xcw_129 : xpw 5027 = some (Cond.code ⟨"LaterPrints", "isSight", "(I)Z"⟩ prog_1_method_13_code 2 (some .boolean)) := rfl
theorem xcw_130 : xpw 5228 = some (Cond.code ⟨"LaterPrints", "isSightSet", "(I)Z"⟩ prog_1_method_14_code 2 (some .boolean)) := rfl
theorem xcw_131 : xpw 5035 = some (Cond.code ⟨"LaterPrints", "isBuyer", "(I)Z"⟩ prog_1_method_15_code 2 (some .boolean)) := rfl
theorem xcw_132 : xpw 5043 = some (Cond.code ⟨"LaterPrints", "isMade", "(I)Z"⟩ prog_1_method_16_code 2 (some .boolean)) := rfl
theorem xcw_133 : xpw 3057 = some (Cond.code ⟨"LaterPrints", "isTray", "(I)Z"⟩ prog_1_method_17_code 1 (some .boolean)) := rfl
theorem xcw_134 : xpw 3054 = some (Cond.code ⟨"LaterPrints", "tray", "(III)Z"⟩ prog_1_method_18_code 4 (some .boolean)) := rfl
theorem xcw_135 : xpw 3075 = some (Cond.code ⟨"LaterPrints", "write", "(IIJ)Z"⟩ prog_1_method_19_code 6 (some .boolean)) := rfl
theorem xcw_136 : xpw 3086 = some (Cond.code ⟨"LaterPrints", "read", "(II)J"⟩ prog_1_method_20_code 4 (some .long)) := rfl
theorem xcw_137 : xpw 3094 = some (Cond.code ⟨"LaterPrints", "pour", "(IIIII)Z"⟩ prog_1_method_21_code 6 (some .boolean)) := rfl
theorem xcw_138 : xpw 3079 = some (Cond.code ⟨"LaterPrints", "whyNoPlace", "(II)I"⟩ prog_1_method_22_code 3 (some .int)) := rfl
theorem xcw_139 : xpw 6067 = some (Cond.code ⟨"LaterPrints", "whyTooFew", "(II)I"⟩ prog_1_method_23_code 3 (some .int)) := rfl
theorem xcw_140 : xpw 3082 = some (Cond.code ⟨"LaterPrints", "cutTo", "(IJ)J"⟩ prog_1_method_24_code 3 (some .long)) := rfl
theorem xcw_141 : xpw 3101 = some (Cond.code ⟨"LaterPrints", "feed", "(IIIII)I"⟩ prog_1_method_25_code 6 (some .int)) := rfl
theorem xcw_142 : xpw 3105 = some (Cond.code ⟨"LaterPrints", "putOnTape", "(I)V"⟩ prog_1_method_26_code 3 none) := rfl
theorem xcw_143 : xpw 3109 = some (Cond.code ⟨"LaterPrints", "scene", "(I)I"⟩ prog_1_method_27_code 3 (some .int)) := rfl
theorem xcw_144 : xpw 4103 = some (Cond.code ⟨"LaterPrints", "runs", "(I)I"⟩ prog_1_method_28_code 3 (some .int)) := rfl
theorem xcw_145 : xpw 4071 = some (Cond.code ⟨"LaterPrints", "keepFault", "()V"⟩ prog_1_method_29_code 1 none) := rfl
theorem xcw_146 : xpw 4166 = some (Cond.code ⟨"LaterPrints", "fault", "(I)I"⟩ prog_1_method_30_code 2 (some .int)) := rfl
theorem xcw_147 : xpw 4170 = some (Cond.code ⟨"LaterPrints", "told", "(I)I"⟩ prog_1_method_31_code 3 (some .int)) := rfl
theorem xcw_148 : xpw 4225 = some (Cond.code ⟨"LaterPrints", "who", "(II)I"⟩ prog_1_method_32_code 3 (some .int)) := rfl
theorem xcw_149 : xpw 5003 = some (Cond.code ⟨"LaterPrints", "wall", "(II)I"⟩ prog_1_method_33_code 3 (some .int)) := rfl
theorem xcw_150 : xpw 5008 = some (Cond.code ⟨"LaterPrints", "person", "(II)I"⟩ prog_1_method_34_code 5 (some .int)) := rfl
theorem xcw_151 : xpw 5019 = some (Cond.code ⟨"LaterPrints", "stepOf", "(II)I"⟩ prog_1_method_35_code 3 (some .int)) := rfl
theorem xcw_152 : xpw 5023 = some (Cond.code ⟨"LaterPrints", "sight", "(II)I"⟩ prog_1_method_36_code 4 (some .int)) := rfl
theorem xcw_153 : xpw 5031 = some (Cond.code ⟨"LaterPrints", "coins", "(I)I"⟩ prog_1_method_37_code 2 (some .int)) := rfl
theorem xcw_154 : xpw 5039 = some (Cond.code ⟨"LaterPrints", "owner", "(I)I"⟩ prog_1_method_38_code 2 (some .int)) := rfl
theorem xcw_155 : xpw 5052 = some (Cond.code ⟨"LaterPrints", "prints", "(I)I"⟩ prog_1_method_39_code 2 (some .int)) := rfl
theorem xcw_156 : xpw 5057 = some (Cond.code ⟨"LaterPrints", "buy", "(II)I"⟩ prog_1_method_40_code 4 (some .int)) := rfl
theorem xcw_157 : xpw 5110 = some (Cond.code ⟨"LaterPrints", "skip", "(I)I"⟩ prog_1_method_41_code 3 (some .int)) := rfl
theorem xcw_158 : xpw 5115 = some (Cond.code ⟨"LaterPrints", "give", "(II)I"⟩ prog_1_method_42_code 4 (some .int)) := rfl
theorem xcw_159 : xpw 5120 = some (Cond.code ⟨"LaterPrints", "back", "(II)I"⟩ prog_1_method_43_code 4 (some .int)) := rfl
theorem xcw_160 : xpw 5124 = some (Cond.code ⟨"LaterPrints", "earn", "(II)I"⟩ prog_1_method_44_code 3 (some .int)) := rfl
theorem xcw_161 : xpw 5128 = some (Cond.code ⟨"LaterPrints", "price", "(II)Z"⟩ prog_1_method_45_code 3 (some .boolean)) := rfl
theorem xcw_162 : xpw 5132 = some (Cond.code ⟨"LaterPrints", "build", "(IIZ)Z"⟩ prog_1_method_46_code 5 (some .boolean)) := rfl
theorem xcw_163 : xpw 5136 = some (Cond.code ⟨"LaterPrints", "teach", "(III)Z"⟩ prog_1_method_47_code 4 (some .boolean)) := rfl
theorem xcw_164 : xpw 5140 = some (Cond.code ⟨"LaterPrints", "place", "(III)Z"⟩ prog_1_method_48_code 5 (some .boolean)) := rfl
theorem xcw_165 : xpw 5145 = some (Cond.code ⟨"LaterPrints", "priceOf", "(I)I"⟩ prog_1_method_49_code 2 (some .int)) := rfl
theorem xcw_166 : xpw 5149 = some (Cond.code ⟨"LaterPrints", "costOf", "(I)I"⟩ prog_1_method_50_code 2 (some .int)) := rfl
theorem xcw_167 : xpw 5154 = some (Cond.code ⟨"LaterPrints", "placeIn", "(II)I"⟩ prog_1_method_51_code 3 (some .int)) := rfl
theorem xcw_168 : xpw 5164 = some (Cond.code ⟨"LaterPrints", "whoIn", "(III)I"⟩ prog_1_method_52_code 4 (some .int)) := rfl
theorem xcw_169 : xpw 5168 = some (Cond.code ⟨"LaterPrints", "showsIn", "(I)I"⟩ prog_1_method_53_code 2 (some .int)) := rfl
theorem xcw_170 : xpw 5172 = some (Cond.code ⟨"LaterPrints", "first", "(I)I"⟩ prog_1_method_54_code 2 (some .int)) := rfl
theorem xcw_171 : xpw 5181 = some (Cond.code ⟨"LaterPrints", "cost", "(I)I"⟩ prog_1_method_55_code 3 (some .int)) := rfl
theorem xcw_172 : xpw 5185 = some (Cond.code ⟨"LaterPrints", "often", "(II)I"⟩ prog_1_method_56_code 5 (some .int)) := rfl
theorem xcw_173 : xpw 5194 = some (Cond.code ⟨"LaterPrints", "longest", "(II)I"⟩ prog_1_method_57_code 6 (some .int)) := rfl
theorem xcw_174 : xpw 5201 = some (Cond.code ⟨"LaterPrints", "gone", "(I)I"⟩ prog_1_method_58_code 3 (some .int)) := rfl
theorem xcw_175 : xpw 5210 = some (Cond.code ⟨"LaterPrints", "again", "()I"⟩ prog_1_method_59_code 2 (some .int)) := rfl
theorem xcw_176 : xpw 5220 = some (Cond.code ⟨"LaterPrints", "stays", "(II)I"⟩ prog_1_method_60_code 5 (some .int)) := rfl
theorem xcw_177 : xpw 5224 = some (Cond.code ⟨"LaterPrints", "cover", "(II)I"⟩ prog_1_method_61_code 5 (some .int)) := rfl
theorem xcw_178 : xpw 6009 = some (Cond.code ⟨"LaterPrints", "coverSet", "(II)I"⟩ prog_1_method_62_code 5 (some .int)) := rfl
theorem xcw_179 : xpw 6017 = some (Cond.code ⟨"LaterPrints", "share", "(II)I"⟩ prog_1_method_63_code 5 (some .int)) := rfl
theorem xcw_180 : xpw 6027 = some (Cond.code ⟨"LaterPrints", "turns", "(II)I"⟩ prog_1_method_64_code 4 (some .int)) := rfl
theorem xcw_181 : xpw 6034 = some (Cond.code ⟨"LaterPrints", "turnsFirst", "(II)I"⟩ prog_1_method_65_code 4 (some .int)) := rfl
theorem xcw_182 : xpw 6030 = some (Cond.code ⟨"LaterPrints", "winningBuy", "(II)I"⟩ prog_1_method_66_code 2 (some .int)) := rfl
theorem xcw_183 : xpw 6038 = some (Cond.code ⟨"LaterPrints", "comesBack", "(II)Z"⟩ prog_1_method_67_code 8 (some .boolean)) := rfl
theorem xcw_184 : xpw 6047 = some (Cond.code ⟨"LaterPrints", "afford", "(I)I"⟩ prog_1_method_68_code 2 (some .int)) := rfl
theorem xcw_185 : xpw 6055 = some (Cond.code ⟨"LaterPrints", "sees", "(I)I"⟩ prog_1_method_69_code 5 (some .int)) := rfl
theorem xcw_186 : xpw 6051 = some (Cond.code ⟨"LaterPrints", "mostAffordable", "(I)I"⟩ prog_1_method_70_code 3 (some .int)) := rfl
theorem xcw_187 : xpw 6059 = some (Cond.code ⟨"LaterPrints", "steps", "(III)I"⟩ prog_1_method_71_code 5 (some .int)) := rfl
theorem xcw_188 : xpw 6101 = some (Cond.code ⟨"LaterPrints", "stepsAt", "(IIII)I"⟩ prog_1_method_72_code 6 (some .int)) := rfl
theorem xcw_189 : xpw 6105 = some (Cond.code ⟨"LaterPrints", "period", "(II)I"⟩ prog_1_method_73_code 5 (some .int)) := rfl
theorem xcw_190 : xpw 6063 = some (Cond.code ⟨"LaterPrints", "whyNoTrack", "(II)I"⟩ prog_1_method_74_code 4 (some .int)) := rfl
theorem xcw_191 : xpw 6109 = some (Cond.code ⟨"LaterPrints", "copyWay", "(III)I"⟩ prog_1_method_75_code 6 (some .int)) := rfl
theorem xcw_192 : xpw 6113 = some (Cond.code ⟨"LaterPrints", "between", "(IIIII)J"⟩ prog_1_method_76_code 9 (some .long)) := rfl
theorem xcw_193 : xpw 6126 = some (Cond.code ⟨"LaterPrints", "origin", "(III)I"⟩ prog_1_method_77_code 6 (some .int)) := rfl
theorem xcw_194 : xpw 6135 = some (Cond.code ⟨"LaterPrints", "live", "(I)I"⟩ prog_1_method_78_code 2 (some .int)) := rfl
theorem xcw_195 : xpw 6184 = some (Cond.code ⟨"LaterPrints", "lived", "(I)I"⟩ prog_1_method_79_code 2 (some .int)) := rfl
theorem xcw_196 : xpw 6188 = some (Cond.code ⟨"LaterPrints", "mean", "(II)Z"⟩ prog_1_method_80_code 6 (some .boolean)) := rfl
theorem xcw_197 : xpw 6192 = some (Cond.code ⟨"LaterPrints", "mark", "()I"⟩ prog_1_method_81_code 1 (some .int)) := rfl
theorem xcw_198 : xpw 6196 = some (Cond.code ⟨"LaterPrints", "undo", "()I"⟩ prog_1_method_82_code 1 (some .int)) := rfl
theorem xcw_199 : xpw 6201 = some (Cond.code ⟨"LaterPrintsModel", "<init>", "()V"⟩ prog_14_method_1_code 1 none) := rfl
theorem xcw_200 : xpw 6206 = some (Cond.code ⟨"LaterPrintsModel", "plain", "(I)V"⟩ prog_14_method_2_code 3 none) := rfl
theorem xcw_201 : xpw 7082 = some (Cond.code ⟨"LaterPrintsModel", "status", "()I"⟩ prog_14_method_3_code 1 (some .int)) := rfl
theorem xcw_202 : xpw 7086 = some (Cond.code ⟨"LaterPrintsModel", "top", "()J"⟩ prog_14_method_4_code 1 (some .long)) := rfl
theorem xcw_203 : xpw 7090 = some (Cond.code ⟨"LaterPrintsModel", "bottom", "()J"⟩ prog_14_method_5_code 1 (some .long)) := rfl
theorem xcw_204 : xpw 7101 = some (Cond.code ⟨"LaterPrintsModel", "is", "(I)Z"⟩ prog_14_method_6_code 2 (some .boolean)) := rfl
theorem xcw_205 : xpw 7161 = some (Cond.code ⟨"LaterPrintsModel", "refuse", "(I)I"⟩ prog_14_method_7_code 2 (some .int)) := rfl
theorem xcw_206 : xpw 8004 = some (Cond.code ⟨"LaterPrintsModel", "gives", "(I)I"⟩ prog_14_method_8_code 2 (some .int)) := rfl
theorem xcw_207 : xpw 8091 = some (Cond.code ⟨"LaterPrintsModel", "orNone", "(I)I"⟩ prog_14_method_9_code 2 (some .int)) := rfl
theorem xcw_208 : xpw 9101 = some (Cond.code ⟨"LaterPrintsModel", "tellsBy", "(JJ)Z"⟩ prog_14_method_10_code 11 (some .boolean)) := rfl
theorem xcw_209 : xpw 7097 = some (Cond.code ⟨"LaterPrintsModel", "isTray", "(I)Z"⟩ prog_14_method_11_code 1 (some .boolean)) := rfl
theorem xcw_210 : xpw 7112 = some (Cond.code ⟨"LaterPrintsModel", "cut", "(JI)J"⟩ prog_14_method_12_code 3 (some .long)) := rfl
theorem xcw_211 : xpw 7094 = some (Cond.code ⟨"LaterPrintsModel", "tray", "(III)Z"⟩ prog_14_method_13_code 5 (some .boolean)) := rfl
theorem xcw_212 : xpw 7109 = some (Cond.code ⟨"LaterPrintsModel", "wrongPlace", "(II)I"⟩ prog_14_method_14_code 3 (some .int)) := rfl
theorem xcw_213 : xpw 7105 = some (Cond.code ⟨"LaterPrintsModel", "write", "(IIJ)Z"⟩ prog_14_method_15_code 6 (some .boolean)) := rfl
theorem xcw_214 : xpw 7116 = some (Cond.code ⟨"LaterPrintsModel", "read", "(II)J"⟩ prog_14_method_16_code 3 (some .long)) := rfl
theorem xcw_215 : xpw 7121 = some (Cond.code ⟨"LaterPrintsModel", "pour", "(IIIII)Z"⟩ prog_14_method_17_code 8 (some .boolean)) := rfl
theorem xcw_216 : xpw 8150 = some (Cond.code ⟨"LaterPrintsModel", "isFrom", "(JJJ)Z"⟩ prog_14_method_18_code 6 (some .boolean)) := rfl
theorem xcw_217 : xpw 7125 = some (Cond.code ⟨"LaterPrintsModel", "feed", "(IIIII)I"⟩ prog_14_method_19_code 6 (some .int)) := rfl
theorem xcw_218 : xpw 7129 = some (Cond.code ⟨"LaterPrintsModel", "four", "(I)V"⟩ prog_14_method_20_code 3 none) := rfl
theorem xcw_219 : xpw 7149 = some (Cond.code ⟨"LaterPrintsModel", "byteAt", "(I)I"⟩ prog_14_method_21_code 2 (some .int)) := rfl
theorem xcw_220 : xpw 7152 = some (Cond.code ⟨"LaterPrintsModel", "isSmall", "(I)Z"⟩ prog_14_method_22_code 1 (some .boolean)) := rfl
theorem xcw_221 : xpw 7155 = some (Cond.code ⟨"LaterPrintsModel", "isDigit", "(I)Z"⟩ prog_14_method_23_code 1 (some .boolean)) := rfl
theorem xcw_222 : xpw 7145 = some (Cond.code ⟨"LaterPrintsModel", "ahead", "()V"⟩ prog_14_method_24_code 2 none) := rfl
theorem xcw_223 : xpw 7236 = some (Cond.code ⟨"LaterPrintsModel", "isSign", "(I)Z"⟩ prog_14_method_25_code 2 (some .boolean)) := rfl
theorem xcw_224 : xpw 7170 = some (Cond.code ⟨"LaterPrintsModel", "inWords", "(Ljava/lang/String;)I"⟩ prog_14_method_26_code 7 (some .int)) := rfl
theorem xcw_225 : xpw 7176 = some (Cond.code ⟨"LaterPrintsModel", "fails", "(I)Z"⟩ prog_14_method_27_code 2 (some .boolean)) := rfl
theorem xcw_226 : xpw 7141 = some (Cond.code ⟨"LaterPrintsModel", "begins", "(II)Z"⟩ prog_14_method_28_code 4 (some .boolean)) := rfl
theorem xcw_227 : xpw 7232 = some (Cond.code ⟨"LaterPrintsModel", "wantSign", "(I)Z"⟩ prog_14_method_29_code 2 (some .boolean)) := rfl
theorem xcw_228 : xpw 7184 = some (Cond.code ⟨"LaterPrintsModel", "wantWord", "(Ljava/lang/String;I)Z"⟩ prog_14_method_30_code 3 (some .boolean)) := rfl
theorem xcw_229 : xpw 7180 = some (Cond.code ⟨"LaterPrintsModel", "number", "(III)Z"⟩ prog_14_method_31_code 4 (some .boolean)) := rfl
theorem xcw_230 : xpw 7204 = some (Cond.code ⟨"LaterPrintsModel", "isName", "(Ljava/lang/String;)Z"⟩ prog_14_method_32_code 2 (some .boolean)) := rfl
theorem xcw_231 : xpw 7212 = some (Cond.code ⟨"LaterPrintsModel", "nameHere", "()J"⟩ prog_14_method_33_code 4 (some .long)) := rfl
theorem xcw_232 : xpw 7208 = some (Cond.code ⟨"LaterPrintsModel", "findHere", "(II)I"⟩ prog_14_method_34_code 4 (some .int)) := rfl
theorem xcw_233 : xpw 7133 = some (Cond.code ⟨"LaterPrintsModel", "fault", "(I)I"⟩ prog_14_method_35_code 2 (some .int)) := rfl
theorem xcw_234 : xpw 8000 = some (Cond.code ⟨"LaterPrintsModel", "taken", "(I)I"⟩ prog_14_method_36_code 2 (some .int)) := rfl
theorem xcw_235 : xpw 7216 = some (Cond.code ⟨"LaterPrintsModel", "isThere", "(I)Z"⟩ prog_14_method_37_code 2 (some .boolean)) := rfl
theorem xcw_236 : xpw 7200 = some (Cond.code ⟨"LaterPrintsModel", "newOne", "(III)Z"⟩ prog_14_method_38_code 4 (some .boolean)) := rfl
theorem xcw_237 : xpw 7224 = some (Cond.code ⟨"LaterPrintsModel", "personTo", "(I)Z"⟩ prog_14_method_39_code 2 (some .boolean)) := rfl
theorem xcw_238 : xpw 7188 = some (Cond.code ⟨"LaterPrintsModel", "cellTo", "(IZ)Z"⟩ prog_14_method_40_code 4 (some .boolean)) := rfl
theorem xcw_239 : xpw 7192 = some (Cond.code ⟨"LaterPrintsModel", "isToldCell", "(I)Z"⟩ prog_14_method_41_code 4 (some .boolean)) := rfl
theorem xcw_240 : xpw 7196 = some (Cond.code ⟨"LaterPrintsModel", "aPerson", "()Z"⟩ prog_14_method_42_code 2 (some .boolean)) := rfl
theorem xcw_241 : xpw 7220 = some (Cond.code ⟨"LaterPrintsModel", "aSight", "()Z"⟩ prog_14_method_43_code 2 (some .boolean)) := rfl
theorem xcw_242 : xpw 7228 = some (Cond.code ⟨"LaterPrintsModel", "aBuyer", "()Z"⟩ prog_14_method_44_code 2 (some .boolean)) := rfl
theorem xcw_243 : xpw 7165 = some (Cond.code ⟨"LaterPrintsModel", "scenePart", "()Z"⟩ prog_14_method_45_code 3 (some .boolean)) := rfl
theorem xcw_244 : xpw 7137 = some (Cond.code ⟨"LaterPrintsModel", "scene", "(I)I"⟩ prog_14_method_46_code 4 (some .int)) := rfl
theorem xcw_245 : xpw 8024 = some (Cond.code ⟨"LaterPrintsModel", "oldOne", "(III)Z"⟩ prog_14_method_47_code 4 (some .boolean)) := rfl
theorem xcw_246 : xpw 8020 = some (Cond.code ⟨"LaterPrintsModel", "buyerTo", "(I)Z"⟩ prog_14_method_48_code 2 (some .boolean)) := rfl
theorem xcw_247 : xpw 8028 = some (Cond.code ⟨"LaterPrintsModel", "test", "(I)Z"⟩ prog_14_method_49_code 3 (some .boolean)) := rfl
theorem xcw_248 : xpw 8016 = some (Cond.code ⟨"LaterPrintsModel", "runOrder", "(II)Z"⟩ prog_14_method_50_code 3 (some .boolean)) := rfl
theorem xcw_249 : xpw 8012 = some (Cond.code ⟨"LaterPrintsModel", "runStep", "()Z"⟩ prog_14_method_51_code 6 (some .boolean)) := rfl
theorem xcw_250 : xpw 8008 = some (Cond.code ⟨"LaterPrintsModel", "runs", "(I)I"⟩ prog_14_method_52_code 4 (some .int)) := rfl
theorem xcw_251 : xpw 8051 = some (Cond.code ⟨"LaterPrintsModel", "personRow", "(I)I"⟩ prog_14_method_53_code 1 (some .int)) := rfl
theorem xcw_252 : xpw 8062 = some (Cond.code ⟨"LaterPrintsModel", "sightRow", "(I)I"⟩ prog_14_method_54_code 1 (some .int)) := rfl
theorem xcw_253 : xpw 8083 = some (Cond.code ⟨"LaterPrintsModel", "isCell", "(II)Z"⟩ prog_14_method_55_code 3 (some .boolean)) := rfl
theorem xcw_254 : xpw 8103 = some (Cond.code ⟨"LaterPrintsModel", "isPerson", "(I)Z"⟩ prog_14_method_56_code 2 (some .boolean)) := rfl
theorem xcw_255 : xpw 8115 = some (Cond.code ⟨"LaterPrintsModel", "isSight", "(I)Z"⟩ prog_14_method_57_code 2 (some .boolean)) := rfl
theorem xcw_256 : xpw 8126 = some (Cond.code ⟨"LaterPrintsModel", "isBuyer", "(I)Z"⟩ prog_14_method_58_code 2 (some .boolean)) := rfl
theorem xcw_257 : xpw 8134 = some (Cond.code ⟨"LaterPrintsModel", "isMade", "(I)Z"⟩ prog_14_method_59_code 2 (some .boolean)) := rfl
theorem xcw_258 : xpw 9021 = some (Cond.code ⟨"LaterPrintsModel", "isIn", "(II)Z"⟩ prog_14_method_60_code 3 (some .boolean)) := rfl
theorem xcw_259 : xpw 9070 = some (Cond.code ⟨"LaterPrintsModel", "bits", "(I)I"⟩ prog_14_method_61_code 3 (some .int)) := rfl
theorem xcw_260 : xpw 8048 = some (Cond.code ⟨"LaterPrintsModel", "personOf", "(II)I"⟩ prog_14_method_62_code 3 (some .int)) := rfl
theorem xcw_261 : xpw 8066 = some (Cond.code ⟨"LaterPrintsModel", "isHere", "(I)Z"⟩ prog_14_method_63_code 2 (some .boolean)) := rfl
theorem xcw_262 : xpw 8166 = some (Cond.code ⟨"LaterPrintsModel", "isWall", "(I)Z"⟩ prog_14_method_64_code 2 (some .boolean)) := rfl
theorem xcw_263 : xpw 8118 = some (Cond.code ⟨"LaterPrintsModel", "told10", "(I)I"⟩ prog_14_method_65_code 1 (some .int)) := rfl
theorem xcw_264 : xpw 8087 = some (Cond.code ⟨"LaterPrintsModel", "whoAt", "(I)I"⟩ prog_14_method_66_code 3 (some .int)) := rfl
theorem xcw_265 : xpw 8059 = some (Cond.code ⟨"LaterPrintsModel", "doesShow", "(I)Z"⟩ prog_14_method_67_code 5 (some .boolean)) := rfl
theorem xcw_266 : xpw 8055 = some (Cond.code ⟨"LaterPrintsModel", "shown", "()I"⟩ prog_14_method_68_code 3 (some .int)) := rfl
theorem xcw_267 : xpw 8044 = some (Cond.code ⟨"LaterPrintsModel", "inState", "(I)I"⟩ prog_14_method_69_code 4 (some .int)) := rfl
theorem xcw_268 : xpw 8071 = some (Cond.code ⟨"LaterPrintsModel", "sumOf", "(II)I"⟩ prog_14_method_70_code 5 (some .int)) := rfl
theorem xcw_269 : xpw 8075 = some (Cond.code ⟨"LaterPrintsModel", "printsOf", "(I)I"⟩ prog_14_method_71_code 4 (some .int)) := rfl
theorem xcw_270 : xpw 8040 = some (Cond.code ⟨"LaterPrintsModel", "priceBy", "(I)I"⟩ prog_14_method_72_code 2 (some .int)) := rfl
theorem xcw_271 : xpw 8036 = some (Cond.code ⟨"LaterPrintsModel", "nextPrice", "()I"⟩ prog_14_method_73_code 1 (some .int)) := rfl
theorem xcw_272 : xpw 8032 = some (Cond.code ⟨"LaterPrintsModel", "told", "(I)I"⟩ prog_14_method_74_code 2 (some .int)) := rfl
theorem xcw_273 : xpw 8079 = some (Cond.code ⟨"LaterPrintsModel", "who", "(II)I"⟩ prog_14_method_75_code 3 (some .int)) := rfl
theorem xcw_274 : xpw 8095 = some (Cond.code ⟨"LaterPrintsModel", "wall", "(II)I"⟩ prog_14_method_76_code 3 (some .int)) := rfl
theorem xcw_275 : xpw 8099 = some (Cond.code ⟨"LaterPrintsModel", "person", "(II)I"⟩ prog_14_method_77_code 4 (some .int)) := rfl
theorem xcw_276 : xpw 8107 = some (Cond.code ⟨"LaterPrintsModel", "stepOf", "(II)I"⟩ prog_14_method_78_code 3 (some .int)) := rfl
theorem xcw_277 : xpw 8111 = some (Cond.code ⟨"LaterPrintsModel", "sight", "(II)I"⟩ prog_14_method_79_code 4 (some .int)) := rfl
theorem xcw_278 : xpw 8122 = some (Cond.code ⟨"LaterPrintsModel", "coins", "(I)I"⟩ prog_14_method_80_code 2 (some .int)) := rfl
theorem xcw_279 : xpw 8138 = some (Cond.code ⟨"LaterPrintsModel", "ownerOf", "(I)I"⟩ prog_14_method_81_code 2 (some .int)) := rfl
theorem xcw_280 : xpw 8130 = some (Cond.code ⟨"LaterPrintsModel", "owner", "(I)I"⟩ prog_14_method_82_code 2 (some .int)) := rfl
theorem xcw_281 : xpw 8142 = some (Cond.code ⟨"LaterPrintsModel", "prints", "(I)I"⟩ prog_14_method_83_code 2 (some .int)) := rfl
theorem xcw_282 : xpw 8170 = some (Cond.code ⟨"LaterPrintsModel", "stepFrom", "(II)I"⟩ prog_14_method_84_code 5 (some .int)) := rfl
theorem xcw_283 : xpw 8162 = some (Cond.code ⟨"LaterPrintsModel", "livesOn", "(I)V"⟩ prog_14_method_85_code 5 none) := rfl
theorem xcw_284 : xpw 8158 = some (Cond.code ⟨"LaterPrintsModel", "second", "()V"⟩ prog_14_method_86_code 2 none) := rfl
theorem xcw_285 : xpw 8178 = some (Cond.code ⟨"LaterPrintsModel", "seconds", "(I)V"⟩ prog_14_method_87_code 3 none) := rfl
theorem xcw_286 : xpw 8154 = some (Cond.code ⟨"LaterPrintsModel", "buysOne", "(I)Z"⟩ prog_14_method_88_code 3 (some .boolean)) := rfl
theorem xcw_287 : xpw 8146 = some (Cond.code ⟨"LaterPrintsModel", "buy", "(II)I"⟩ prog_14_method_89_code 4 (some .int)) := rfl
theorem xcw_288 : xpw 8174 = some (Cond.code ⟨"LaterPrintsModel", "skip", "(I)I"⟩ prog_14_method_90_code 2 (some .int)) := rfl
theorem xcw_289 : xpw 8182 = some (Cond.code ⟨"LaterPrintsModel", "give", "(II)I"⟩ prog_14_method_91_code 4 (some .int)) := rfl
theorem xcw_290 : xpw 8186 = some (Cond.code ⟨"LaterPrintsModel", "back", "(II)I"⟩ prog_14_method_92_code 3 (some .int)) := rfl
theorem xcw_291 : xpw 8190 = some (Cond.code ⟨"LaterPrintsModel", "earn", "(II)I"⟩ prog_14_method_93_code 3 (some .int)) := rfl
theorem xcw_292 : xpw 8195 = some (Cond.code ⟨"LaterPrintsModel", "price", "(II)Z"⟩ prog_14_method_94_code 3 (some .boolean)) := rfl
theorem xcw_293 : xpw 8200 = some (Cond.code ⟨"LaterPrintsModel", "build", "(IIZ)Z"⟩ prog_14_method_95_code 5 (some .boolean)) := rfl
theorem xcw_294 : xpw 8204 = some (Cond.code ⟨"LaterPrintsModel", "teach", "(III)Z"⟩ prog_14_method_96_code 4 (some .boolean)) := rfl
theorem xcw_295 : xpw 8209 = some (Cond.code ⟨"LaterPrintsModel", "place", "(III)Z"⟩ prog_14_method_97_code 5 (some .boolean)) := rfl
theorem xcw_296 : xpw 8233 = some (Cond.code ⟨"LaterPrintsModel", "keeps", "(I)V"⟩ prog_14_method_98_code 3 none) := rfl
theorem xcw_297 : xpw 8237 = some (Cond.code ⟨"LaterPrintsModel", "restores", "(I)V"⟩ prog_14_method_99_code 3 none) := rfl
theorem xcw_298 : xpw 8220 = some (Cond.code ⟨"LaterPrintsModel", "isSpan", "(II)Z"⟩ prog_14_method_100_code 2 (some .boolean)) := rfl
theorem xcw_299 : xpw 8213 = some (Cond.code ⟨"LaterPrintsModel", "priceOf", "(I)I"⟩ prog_14_method_101_code 2 (some .int)) := rfl
theorem xcw_300 : xpw 8225 = some (Cond.code ⟨"LaterPrintsModel", "costBy", "(I)I"⟩ prog_14_method_102_code 4 (some .int)) := rfl
theorem xcw_301 : xpw 8217 = some (Cond.code ⟨"LaterPrintsModel", "costOf", "(I)I"⟩ prog_14_method_103_code 2 (some .int)) := rfl
theorem xcw_302 : xpw 8229 = some (Cond.code ⟨"LaterPrintsModel", "placeIn", "(II)I"⟩ prog_14_method_104_code 4 (some .int)) := rfl
theorem xcw_303 : xpw 9001 = some (Cond.code ⟨"LaterPrintsModel", "whoIn", "(III)I"⟩ prog_14_method_105_code 5 (some .int)) := rfl
theorem xcw_304 : xpw 9005 = some (Cond.code ⟨"LaterPrintsModel", "showsIn", "(I)I"⟩ prog_14_method_106_code 3 (some .int)) := rfl
theorem xcw_305 : xpw 9017 = some (Cond.code ⟨"LaterPrintsModel", "laysShows", "(I)V"⟩ prog_14_method_107_code 3 none) := rfl
theorem xcw_306 : xpw 9013 = some (Cond.code ⟨"LaterPrintsModel", "firstOf", "(I)I"⟩ prog_14_method_108_code 3 (some .int)) := rfl
theorem xcw_307 : xpw 9009 = some (Cond.code ⟨"LaterPrintsModel", "first", "(I)I"⟩ prog_14_method_109_code 2 (some .int)) := rfl
theorem xcw_308 : xpw 9025 = some (Cond.code ⟨"LaterPrintsModel", "cost", "(I)I"⟩ prog_14_method_110_code 3 (some .int)) := rfl
theorem xcw_309 : xpw 9029 = some (Cond.code ⟨"LaterPrintsModel", "often", "(II)I"⟩ prog_14_method_111_code 5 (some .int)) := rfl
theorem xcw_310 : xpw 9033 = some (Cond.code ⟨"LaterPrintsModel", "longest", "(II)I"⟩ prog_14_method_112_code 6 (some .int)) := rfl
theorem xcw_311 : xpw 9038 = some (Cond.code ⟨"LaterPrintsModel", "gone", "(I)I"⟩ prog_14_method_113_code 4 (some .int)) := rfl
theorem xcw_312 : xpw 9046 = some (Cond.code ⟨"LaterPrintsModel", "isAsIn", "(I)Z"⟩ prog_14_method_114_code 4 (some .boolean)) := rfl
theorem xcw_313 : xpw 9042 = some (Cond.code ⟨"LaterPrintsModel", "again", "()I"⟩ prog_14_method_115_code 3 (some .int)) := rfl
theorem xcw_314 : xpw 9050 = some (Cond.code ⟨"LaterPrintsModel", "stays", "(II)I"⟩ prog_14_method_116_code 6 (some .int)) := rfl
theorem xcw_315 : xpw 9058 = some (Cond.code ⟨"LaterPrintsModel", "isCover", "(II)Z"⟩ prog_14_method_117_code 3 (some .boolean)) := rfl
theorem xcw_316 : xpw 9067 = some (Cond.code ⟨"LaterPrintsModel", "costOfSet", "(I)I"⟩ prog_14_method_118_code 4 (some .int)) := rfl
theorem xcw_317 : xpw 9063 = some (Cond.code ⟨"LaterPrintsModel", "covering", "(II)I"⟩ prog_14_method_119_code 7 (some .int)) := rfl
theorem xcw_318 : xpw 9054 = some (Cond.code ⟨"LaterPrintsModel", "cover", "(II)I"⟩ prog_14_method_120_code 4 (some .int)) := rfl
theorem xcw_319 : xpw 9074 = some (Cond.code ⟨"LaterPrintsModel", "coverSet", "(II)I"⟩ prog_14_method_121_code 3 (some .int)) := rfl
theorem xcw_320 : xpw 9078 = some (Cond.code ⟨"LaterPrintsModel", "share", "(II)I"⟩ prog_14_method_122_code 5 (some .int)) := rfl
theorem xcw_321 : xpw 9087 = some (Cond.code ⟨"LaterPrintsModel", "isGame", "(II)Z"⟩ prog_14_method_123_code 3 (some .boolean)) := rfl
theorem xcw_322 : xpw 9083 = some (Cond.code ⟨"LaterPrintsModel", "turns", "(II)I"⟩ prog_14_method_124_code 4 (some .int)) := rfl
theorem xcw_323 : xpw 9092 = some (Cond.code ⟨"LaterPrintsModel", "turnsFirst", "(II)I"⟩ prog_14_method_125_code 4 (some .int)) := rfl
theorem xcw_324 : xpw 9096 = some (Cond.code ⟨"LaterPrintsModel", "comesBack", "(II)Z"⟩ prog_14_method_126_code 8 (some .boolean)) := rfl
theorem xcw_325 : xpw 9109 = some (Cond.code ⟨"LaterPrintsModel", "affordOf", "(I)I"⟩ prog_14_method_127_code 3 (some .int)) := rfl
theorem xcw_326 : xpw 9105 = some (Cond.code ⟨"LaterPrintsModel", "afford", "(I)I"⟩ prog_14_method_128_code 2 (some .int)) := rfl
theorem xcw_327 : xpw 9113 = some (Cond.code ⟨"LaterPrintsModel", "sees", "(I)I"⟩ prog_14_method_129_code 5 (some .int)) := rfl
theorem xcw_328 : xpw 9124 = some (Cond.code ⟨"LaterPrintsModel", "wrongCells", "(II)I"⟩ prog_14_method_130_code 6 (some .int)) := rfl
theorem xcw_329 : xpw 9133 = some (Cond.code ⟨"LaterPrintsModel", "doesFit", "(II)Z"⟩ prog_14_method_131_code 5 (some .boolean)) := rfl
theorem xcw_330 : xpw 9129 = some (Cond.code ⟨"LaterPrintsModel", "rowsOf", "(II)I"⟩ prog_14_method_132_code 8 (some .int)) := rfl
theorem xcw_331 : xpw 9120 = some (Cond.code ⟨"LaterPrintsModel", "isPeriod", "(I)Z"⟩ prog_14_method_133_code 1 (some .boolean)) := rfl
theorem xcw_332 : xpw 9117 = some (Cond.code ⟨"LaterPrintsModel", "steps", "(III)I"⟩ prog_14_method_134_code 5 (some .int)) := rfl
theorem xcw_333 : xpw 9137 = some (Cond.code ⟨"LaterPrintsModel", "stepsAt", "(IIII)I"⟩ prog_14_method_135_code 6 (some .int)) := rfl
theorem xcw_334 : xpw 9141 = some (Cond.code ⟨"LaterPrintsModel", "period", "(II)I"⟩ prog_14_method_136_code 5 (some .int)) := rfl
theorem xcw_335 : xpw 9145 = some (Cond.code ⟨"LaterPrintsModel", "copyWay", "(III)I"⟩ prog_14_method_137_code 5 (some .int)) := rfl
theorem xcw_336 : xpw 9149 = some (Cond.code ⟨"LaterPrintsModel", "between", "(IIIII)J"⟩ prog_14_method_138_code 11 (some .long)) := rfl
theorem xcw_337 : xpw 9153 = some (Cond.code ⟨"LaterPrintsModel", "origin", "(III)I"⟩ prog_14_method_139_code 7 (some .int)) := rfl
theorem xcw_338 : xpw 9182 = some (Cond.code ⟨"LaterPrintsModel", "draw", "(I)I"⟩ prog_14_method_140_code 2 (some .int)) := rfl
theorem xcw_339 : xpw 9170 = some (Cond.code ⟨"LaterPrintsModel", "buysBy", "(II)Z"⟩ prog_14_method_141_code 5 (some .boolean)) := rfl
theorem xcw_340 : xpw 9174 = some (Cond.code ⟨"LaterPrintsModel", "skipsBy", "(I)Z"⟩ prog_14_method_142_code 2 (some .boolean)) := rfl
theorem xcw_341 : xpw 9178 = some (Cond.code ⟨"LaterPrintsModel", "givesBy", "(II)Z"⟩ prog_14_method_143_code 4 (some .boolean)) := rfl
theorem xcw_342 : xpw 9166 = some (Cond.code ⟨"LaterPrintsModel", "does", "(I)Z"⟩ prog_14_method_144_code 3 (some .boolean)) := rfl
theorem xcw_343 : xpw 9187 = some (Cond.code ⟨"LaterPrintsModel", "holds", "(I)Z"⟩ prog_14_method_145_code 5 (some .boolean)) := rfl
theorem xcw_344 : xpw 9191 = some (Cond.code ⟨"LaterPrintsModel", "behindEnds", "(I)I"⟩ prog_14_method_146_code 5 (some .int)) := rfl
theorem xcw_345 : xpw 9162 = some (Cond.code ⟨"LaterPrintsModel", "lives", "(I)V"⟩ prog_14_method_147_code 4 none) := rfl
theorem xcw_346 : xpw 9157 = some (Cond.code ⟨"LaterPrintsModel", "live", "(I)I"⟩ prog_14_method_148_code 3 (some .int)) := rfl
theorem xcw_347 : xpw 9195 = some (Cond.code ⟨"LaterPrintsModel", "lived", "(I)I"⟩ prog_14_method_149_code 2 (some .int)) := rfl
theorem xcw_348 : xpw 9199 = some (Cond.code ⟨"LaterPrintsModel", "mean", "(II)Z"⟩ prog_14_method_150_code 6 (some .boolean)) := rfl
theorem xcw_349 : xpw 9207 = some (Cond.code ⟨"LaterPrintsModel", "copies", "(II)V"⟩ prog_14_method_151_code 4 none) := rfl
theorem xcw_350 : xpw 9203 = some (Cond.code ⟨"LaterPrintsModel", "mark", "()I"⟩ prog_14_method_152_code 1 (some .int)) := rfl
theorem xcw_351 : xpw 9211 = some (Cond.code ⟨"LaterPrintsModel", "undo", "()I"⟩ prog_14_method_153_code 1 (some .int)) := rfl
theorem xcw_352 : xpw 6020 = some (Cond.code ⟨"java/lang/Integer", "bitCount", "(I)I"⟩ prog_15_method_49_code 1 (some .int)) := rfl
theorem xcw_353 : xpw 4206 = some (Cond.code ⟨"java/lang/Long", "bitCount", "(J)I"⟩ prog_16_method_50_code 2 (some .int)) := rfl
theorem xcw_354 : xpw 3067 = some (Cond.code ⟨"java/util/Arrays", "fill", "([JJ)V"⟩ prog_22_method_101_code 5 none) := rfl
theorem xcw_355 : xpw 2019 = some (Cond.code ⟨"java/util/Arrays", "fill", "([II)V"⟩ prog_22_method_103_code 4 none) := rfl
theorem xcw_all : ∀ (y : Nat) (i : xI) (r : xR), y < 356 → xinf y = some i → xmeth y = some r → Cond.code i.1 i.2.1 r.2.1 (xret r.2.2) ∈ xG := fun y i r hy h1 h2 => match y, hy, h1, h2 with
  | 0, _, h1, h2 => by cases h1; cases h2; exact xG_in 2171 xcw_0 rfl
  | 1, _, h1, h2 => by cases h1; cases h2; exact xG_in 5158 xcw_1 rfl
  | 2, _, h1, h2 => by cases h1; cases h2; exact xG_in 5189 xcw_2 rfl
  | 3, _, h1, h2 => by cases h1; cases h2; exact xG_in 5205 xcw_3 rfl
  | 4, _, h1, h2 => by cases h1; cases h2; exact xG_in 5176 xcw_4 rfl
  | 5, _, h1, h2 => by cases h1; cases h2; exact xG_in 5232 xcw_5 rfl
  | 6, _, h1, h2 => by cases h1; cases h2; exact xG_in 6001 xcw_6 rfl
  | 7, _, h1, h2 => by cases h1; cases h2; exact xG_in 6005 xcw_7 rfl
  | 8, _, h1, h2 => by cases h1; cases h2; exact xG_in 6012 xcw_8 rfl
  | 9, _, h1, h2 => by cases h1; cases h2; exact xG_in 1124 xcw_9 rfl
  | 10, _, h1, h2 => by cases h1; cases h2; exact xG_in 4083 xcw_10 rfl
  | 11, _, h1, h2 => by cases h1; cases h2; exact xG_in 4067 xcw_11 rfl
  | 12, _, h1, h2 => by cases h1; cases h2; exact xG_in 4191 xcw_12 rfl
  | 13, _, h1, h2 => by cases h1; cases h2; exact xG_in 4234 xcw_13 rfl
  | 14, _, h1, h2 => by cases h1; cases h2; exact xG_in 5094 xcw_14 rfl
  | 15, _, h1, h2 => by cases h1; cases h2; exact xG_in 4017 xcw_15 rfl
  | 16, _, h1, h2 => by cases h1; cases h2; exact xG_in 4178 xcw_16 rfl
  | 17, _, h1, h2 => by cases h1; cases h2; exact xG_in 5216 xcw_17 rfl
  | 18, _, h1, h2 => by cases h1; cases h2; exact xG_in 5082 xcw_18 rfl
  | 19, _, h1, h2 => by cases h1; cases h2; exact xG_in 5086 xcw_19 rfl
  | 20, _, h1, h2 => by cases h1; cases h2; exact xG_in 5098 xcw_20 rfl
  | 21, _, h1, h2 => by cases h1; cases h2; exact xG_in 5090 xcw_21 rfl
  | 22, _, h1, h2 => by cases h1; cases h2; exact xG_in 5102 xcw_22 rfl
  | 23, _, h1, h2 => by cases h1; cases h2; exact xG_in 1037 xcw_23 rfl
  | 24, _, h1, h2 => by cases h1; cases h2; exact xG_in 3118 xcw_24 rfl
  | 25, _, h1, h2 => by cases h1; cases h2; exact xG_in 3125 xcw_25 rfl
  | 26, _, h1, h2 => by cases h1; cases h2; exact xG_in 3129 xcw_26 rfl
  | 27, _, h1, h2 => by cases h1; cases h2; exact xG_in 3191 xcw_27 rfl
  | 28, _, h1, h2 => by cases h1; cases h2; exact xG_in 3133 xcw_28 rfl
  | 29, _, h1, h2 => by cases h1; cases h2; exact xG_in 3195 xcw_29 rfl
  | 30, _, h1, h2 => by cases h1; cases h2; exact xG_in 3199 xcw_30 rfl
  | 31, _, h1, h2 => by cases h1; cases h2; exact xG_in 3138 xcw_31 rfl
  | 32, _, h1, h2 => by cases h1; cases h2; exact xG_in 3203 xcw_32 rfl
  | 33, _, h1, h2 => by cases h1; cases h2; exact xG_in 3215 xcw_33 rfl
  | 34, _, h1, h2 => by cases h1; cases h2; exact xG_in 3226 xcw_34 rfl
  | 35, _, h1, h2 => by cases h1; cases h2; exact xG_in 3230 xcw_35 rfl
  | 36, _, h1, h2 => by cases h1; cases h2; exact xG_in 4160 xcw_36 rfl
  | 37, _, h1, h2 => by cases h1; cases h2; exact xG_in 3220 xcw_37 rfl
  | 38, _, h1, h2 => by cases h1; cases h2; exact xG_in 4029 xcw_38 rfl
  | 39, _, h1, h2 => by cases h1; cases h2; exact xG_in 4057 xcw_39 rfl
  | 40, _, h1, h2 => by cases h1; cases h2; exact xG_in 4032 xcw_40 rfl
  | 41, _, h1, h2 => by cases h1; cases h2; exact xG_in 1096 xcw_41 rfl
  | 42, _, h1, h2 => by cases h1; cases h2; exact xG_in 4079 xcw_42 rfl
  | 43, _, h1, h2 => by cases h1; cases h2; exact xG_in 4009 xcw_43 rfl
  | 44, _, h1, h2 => by cases h1; cases h2; exact xG_in 4197 xcw_44 rfl
  | 45, _, h1, h2 => by cases h1; cases h2; exact xG_in 4203 xcw_45 rfl
  | 46, _, h1, h2 => by cases h1; cases h2; exact xG_in 4229 xcw_46 rfl
  | 47, _, h1, h2 => by cases h1; cases h2; exact xG_in 4013 xcw_47 rfl
  | 48, _, h1, h2 => by cases h1; cases h2; exact xG_in 5106 xcw_48 rfl
  | 49, _, h1, h2 => by cases h1; cases h2; exact xG_in 6094 xcw_49 rfl
  | 50, _, h1, h2 => by cases h1; cases h2; exact xG_in 2106 xcw_50 rfl
  | 51, _, h1, h2 => by cases h1; cases h2; exact xG_in 4108 xcw_51 rfl
  | 52, _, h1, h2 => by cases h1; cases h2; exact xG_in 4125 xcw_52 rfl
  | 53, _, h1, h2 => by cases h1; cases h2; exact xG_in 4115 xcw_53 rfl
  | 54, _, h1, h2 => by cases h1; cases h2; exact xG_in 4130 xcw_54 rfl
  | 55, _, h1, h2 => by cases h1; cases h2; exact xG_in 4148 xcw_55 rfl
  | 56, _, h1, h2 => by cases h1; cases h2; exact xG_in 4134 xcw_56 rfl
  | 57, _, h1, h2 => by cases h1; cases h2; exact xG_in 4140 xcw_57 rfl
  | 58, _, h1, h2 => by cases h1; cases h2; exact xG_in 4144 xcw_58 rfl
  | 59, _, h1, h2 => by cases h1; cases h2; exact xG_in 4152 xcw_59 rfl
  | 60, _, h1, h2 => by cases h1; cases h2; exact xG_in 4156 xcw_60 rfl
  | 61, _, h1, h2 => by cases h1; cases h2; exact xG_in 2128 xcw_61 rfl
  | 62, _, h1, h2 => by cases h1; cases h2; exact xG_in 6139 xcw_62 rfl
  | 63, _, h1, h2 => by cases h1; cases h2; exact xG_in 6145 xcw_63 rfl
  | 64, _, h1, h2 => by cases h1; cases h2; exact xG_in 6149 xcw_64 rfl
  | 65, _, h1, h2 => by cases h1; cases h2; exact xG_in 6178 xcw_65 rfl
  | 66, _, h1, h2 => by cases h1; cases h2; exact xG_in 6153 xcw_66 rfl
  | 67, _, h1, h2 => by cases h1; cases h2; exact xG_in 6160 xcw_67 rfl
  | 68, _, h1, h2 => by cases h1; cases h2; exact xG_in 6165 xcw_68 rfl
  | 69, _, h1, h2 => by cases h1; cases h2; exact xG_in 6174 xcw_69 rfl
  | 70, _, h1, h2 => by cases h1; cases h2; exact xG_in 1214 xcw_70 rfl
  | 71, _, h1, h2 => by cases h1; cases h2; exact xG_in 2016 xcw_71 rfl
  | 72, _, h1, h2 => by cases h1; cases h2; exact xG_in 4093 xcw_72 rfl
  | 73, _, h1, h2 => by cases h1; cases h2; exact xG_in 4120 xcw_73 rfl
  | 74, _, h1, h2 => by cases h1; cases h2; exact xG_in 2084 xcw_74 rfl
  | 75, _, h1, h2 => by cases h1; cases h2; exact xG_in 3113 xcw_75 rfl
  | 76, _, h1, h2 => by cases h1; cases h2; exact xG_in 3211 xcw_76 rfl
  | 77, _, h1, h2 => by cases h1; cases h2; exact xG_in 3207 xcw_77 rfl
  | 78, _, h1, h2 => by cases h1; cases h2; exact xG_in 3234 xcw_78 rfl
  | 79, _, h1, h2 => by cases h1; cases h2; exact xG_in 4006 xcw_79 rfl
  | 80, _, h1, h2 => by cases h1; cases h2; exact xG_in 4002 xcw_80 rfl
  | 81, _, h1, h2 => by cases h1; cases h2; exact xG_in 3238 xcw_81 rfl
  | 82, _, h1, h2 => by cases h1; cases h2; exact xG_in 4025 xcw_82 rfl
  | 83, _, h1, h2 => by cases h1; cases h2; exact xG_in 4021 xcw_83 rfl
  | 84, _, h1, h2 => by cases h1; cases h2; exact xG_in 4036 xcw_84 rfl
  | 85, _, h1, h2 => by cases h1; cases h2; exact xG_in 4044 xcw_85 rfl
  | 86, _, h1, h2 => by cases h1; cases h2; exact xG_in 4040 xcw_86 rfl
  | 87, _, h1, h2 => by cases h1; cases h2; exact xG_in 4049 xcw_87 rfl
  | 88, _, h1, h2 => by cases h1; cases h2; exact xG_in 4053 xcw_88 rfl
  | 89, _, h1, h2 => by cases h1; cases h2; exact xG_in 4063 xcw_89 rfl
  | 90, _, h1, h2 => by cases h1; cases h2; exact xG_in 1180 xcw_90 rfl
  | 91, _, h1, h2 => by cases h1; cases h2; exact xG_in 4088 xcw_91 rfl
  | 92, _, h1, h2 => by cases h1; cases h2; exact xG_in 4182 xcw_92 rfl
  | 93, _, h1, h2 => by cases h1; cases h2; exact xG_in 4186 xcw_93 rfl
  | 94, _, h1, h2 => by cases h1; cases h2; exact xG_in 4194 xcw_94 rfl
  | 95, _, h1, h2 => by cases h1; cases h2; exact xG_in 2195 xcw_95 rfl
  | 96, _, h1, h2 => by cases h1; cases h2; exact xG_in 6071 xcw_96 rfl
  | 97, _, h1, h2 => by cases h1; cases h2; exact xG_in 6082 xcw_97 rfl
  | 98, _, h1, h2 => by cases h1; cases h2; exact xG_in 6086 xcw_98 rfl
  | 99, _, h1, h2 => by cases h1; cases h2; exact xG_in 6090 xcw_99 rfl
  | 100, _, h1, h2 => by cases h1; cases h2; exact xG_in 6117 xcw_100 rfl
  | 101, _, h1, h2 => by cases h1; cases h2; exact xG_in 6122 xcw_101 rfl
  | 102, _, h1, h2 => by cases h1; cases h2; exact xG_in 6130 xcw_102 rfl
  | 103, _, h1, h2 => by cases h1; cases h2; exact xG_in 1090 xcw_103 rfl
  | 104, _, h1, h2 => by cases h1; cases h2; exact xG_in 2012 xcw_104 rfl
  | 105, _, h1, h2 => by cases h1; cases h2; exact xG_in 4075 xcw_105 rfl
  | 106, _, h1, h2 => by cases h1; cases h2; exact xG_in 4174 xcw_106 rfl
  | 107, _, h1, h2 => by cases h1; cases h2; exact xG_in 5069 xcw_107 rfl
  | 108, _, h1, h2 => by cases h1; cases h2; exact xG_in 5065 xcw_108 rfl
  | 109, _, h1, h2 => by cases h1; cases h2; exact xG_in 5061 xcw_109 rfl
  | 110, _, h1, h2 => by cases h1; cases h2; exact xG_in 5074 xcw_110 rfl
  | 111, _, h1, h2 => by cases h1; cases h2; exact xG_in 5078 xcw_111 rfl
  | 112, _, h1, h2 => by cases h1; cases h2; exact xG_in 5047 xcw_112 rfl
  | 113, _, h1, h2 => by cases h1; cases h2; exact xG_in 4221 xcw_113 rfl
  | 114, _, h1, h2 => by cases h1; cases h2; exact xG_in 4217 xcw_114 rfl
  | 115, _, h1, h2 => by cases h1; cases h2; exact xG_in 6169 xcw_115 rfl
  | 116, _, h1, h2 => by cases h1; cases h2; exact xG_in 4213 xcw_116 rfl
  | 117, _, h1, h2 => by cases h1; cases h2; exact xG_in 1027 xcw_117 rfl
  | 118, _, h1, h2 => by cases h1; cases h2; exact xG_in 3042 xcw_118 rfl
  | 119, _, h1, h2 => by cases h1; cases h2; exact xG_in 3046 xcw_119 rfl
  | 120, _, h1, h2 => by cases h1; cases h2; exact xG_in 3050 xcw_120 rfl
  | 121, _, h1, h2 => by cases h1; cases h2; exact xG_in 4099 xcw_121 rfl
  | 122, _, h1, h2 => by cases h1; cases h2; exact xG_in 3090 xcw_122 rfl
  | 123, _, h1, h2 => by cases h1; cases h2; exact xG_in 3071 xcw_123 rfl
  | 124, _, h1, h2 => by cases h1; cases h2; exact xG_in 3064 xcw_124 rfl
  | 125, _, h1, h2 => by cases h1; cases h2; exact xG_in 4239 xcw_125 rfl
  | 126, _, h1, h2 => by cases h1; cases h2; exact xG_in 6043 xcw_126 rfl
  | 127, _, h1, h2 => by cases h1; cases h2; exact xG_in 3060 xcw_127 rfl
  | 128, _, h1, h2 => by cases h1; cases h2; exact xG_in 5012 xcw_128 rfl
  | 129, _, h1, h2 => by cases h1; cases h2; exact xG_in 5027 xcw_129 rfl
  | 130, _, h1, h2 => by cases h1; cases h2; exact xG_in 5228 xcw_130 rfl
  | 131, _, h1, h2 => by cases h1; cases h2; exact xG_in 5035 xcw_131 rfl
  | 132, _, h1, h2 => by cases h1; cases h2; exact xG_in 5043 xcw_132 rfl
  | 133, _, h1, h2 => by cases h1; cases h2; exact xG_in 3057 xcw_133 rfl
  | 134, _, h1, h2 => by cases h1; cases h2; exact xG_in 3054 xcw_134 rfl
  | 135, _, h1, h2 => by cases h1; cases h2; exact xG_in 3075 xcw_135 rfl
  | 136, _, h1, h2 => by cases h1; cases h2; exact xG_in 3086 xcw_136 rfl
  | 137, _, h1, h2 => by cases h1; cases h2; exact xG_in 3094 xcw_137 rfl
  | 138, _, h1, h2 => by cases h1; cases h2; exact xG_in 3079 xcw_138 rfl
  | 139, _, h1, h2 => by cases h1; cases h2; exact xG_in 6067 xcw_139 rfl
  | 140, _, h1, h2 => by cases h1; cases h2; exact xG_in 3082 xcw_140 rfl
  | 141, _, h1, h2 => by cases h1; cases h2; exact xG_in 3101 xcw_141 rfl
  | 142, _, h1, h2 => by cases h1; cases h2; exact xG_in 3105 xcw_142 rfl
  | 143, _, h1, h2 => by cases h1; cases h2; exact xG_in 3109 xcw_143 rfl
  | 144, _, h1, h2 => by cases h1; cases h2; exact xG_in 4103 xcw_144 rfl
  | 145, _, h1, h2 => by cases h1; cases h2; exact xG_in 4071 xcw_145 rfl
  | 146, _, h1, h2 => by cases h1; cases h2; exact xG_in 4166 xcw_146 rfl
  | 147, _, h1, h2 => by cases h1; cases h2; exact xG_in 4170 xcw_147 rfl
  | 148, _, h1, h2 => by cases h1; cases h2; exact xG_in 4225 xcw_148 rfl
  | 149, _, h1, h2 => by cases h1; cases h2; exact xG_in 5003 xcw_149 rfl
  | 150, _, h1, h2 => by cases h1; cases h2; exact xG_in 5008 xcw_150 rfl
  | 151, _, h1, h2 => by cases h1; cases h2; exact xG_in 5019 xcw_151 rfl
  | 152, _, h1, h2 => by cases h1; cases h2; exact xG_in 5023 xcw_152 rfl
  | 153, _, h1, h2 => by cases h1; cases h2; exact xG_in 5031 xcw_153 rfl
  | 154, _, h1, h2 => by cases h1; cases h2; exact xG_in 5039 xcw_154 rfl
  | 155, _, h1, h2 => by cases h1; cases h2; exact xG_in 5052 xcw_155 rfl
  | 156, _, h1, h2 => by cases h1; cases h2; exact xG_in 5057 xcw_156 rfl
  | 157, _, h1, h2 => by cases h1; cases h2; exact xG_in 5110 xcw_157 rfl
  | 158, _, h1, h2 => by cases h1; cases h2; exact xG_in 5115 xcw_158 rfl
  | 159, _, h1, h2 => by cases h1; cases h2; exact xG_in 5120 xcw_159 rfl
  | 160, _, h1, h2 => by cases h1; cases h2; exact xG_in 5124 xcw_160 rfl
  | 161, _, h1, h2 => by cases h1; cases h2; exact xG_in 5128 xcw_161 rfl
  | 162, _, h1, h2 => by cases h1; cases h2; exact xG_in 5132 xcw_162 rfl
  | 163, _, h1, h2 => by cases h1; cases h2; exact xG_in 5136 xcw_163 rfl
  | 164, _, h1, h2 => by cases h1; cases h2; exact xG_in 5140 xcw_164 rfl
  | 165, _, h1, h2 => by cases h1; cases h2; exact xG_in 5145 xcw_165 rfl
  | 166, _, h1, h2 => by cases h1; cases h2; exact xG_in 5149 xcw_166 rfl
  | 167, _, h1, h2 => by cases h1; cases h2; exact xG_in 5154 xcw_167 rfl
  | 168, _, h1, h2 => by cases h1; cases h2; exact xG_in 5164 xcw_168 rfl
  | 169, _, h1, h2 => by cases h1; cases h2; exact xG_in 5168 xcw_169 rfl
  | 170, _, h1, h2 => by cases h1; cases h2; exact xG_in 5172 xcw_170 rfl
  | 171, _, h1, h2 => by cases h1; cases h2; exact xG_in 5181 xcw_171 rfl
  | 172, _, h1, h2 => by cases h1; cases h2; exact xG_in 5185 xcw_172 rfl
  | 173, _, h1, h2 => by cases h1; cases h2; exact xG_in 5194 xcw_173 rfl
  | 174, _, h1, h2 => by cases h1; cases h2; exact xG_in 5201 xcw_174 rfl
  | 175, _, h1, h2 => by cases h1; cases h2; exact xG_in 5210 xcw_175 rfl
  | 176, _, h1, h2 => by cases h1; cases h2; exact xG_in 5220 xcw_176 rfl
  | 177, _, h1, h2 => by cases h1; cases h2; exact xG_in 5224 xcw_177 rfl
  | 178, _, h1, h2 => by cases h1; cases h2; exact xG_in 6009 xcw_178 rfl
  | 179, _, h1, h2 => by cases h1; cases h2; exact xG_in 6017 xcw_179 rfl
  | 180, _, h1, h2 => by cases h1; cases h2; exact xG_in 6027 xcw_180 rfl
  | 181, _, h1, h2 => by cases h1; cases h2; exact xG_in 6034 xcw_181 rfl
  | 182, _, h1, h2 => by cases h1; cases h2; exact xG_in 6030 xcw_182 rfl
  | 183, _, h1, h2 => by cases h1; cases h2; exact xG_in 6038 xcw_183 rfl
  | 184, _, h1, h2 => by cases h1; cases h2; exact xG_in 6047 xcw_184 rfl
  | 185, _, h1, h2 => by cases h1; cases h2; exact xG_in 6055 xcw_185 rfl
  | 186, _, h1, h2 => by cases h1; cases h2; exact xG_in 6051 xcw_186 rfl
  | 187, _, h1, h2 => by cases h1; cases h2; exact xG_in 6059 xcw_187 rfl
  | 188, _, h1, h2 => by cases h1; cases h2; exact xG_in 6101 xcw_188 rfl
  | 189, _, h1, h2 => by cases h1; cases h2; exact xG_in 6105 xcw_189 rfl
  | 190, _, h1, h2 => by cases h1; cases h2; exact xG_in 6063 xcw_190 rfl
  | 191, _, h1, h2 => by cases h1; cases h2; exact xG_in 6109 xcw_191 rfl
  | 192, _, h1, h2 => by cases h1; cases h2; exact xG_in 6113 xcw_192 rfl
  | 193, _, h1, h2 => by cases h1; cases h2; exact xG_in 6126 xcw_193 rfl
  | 194, _, h1, h2 => by cases h1; cases h2; exact xG_in 6135 xcw_194 rfl
  | 195, _, h1, h2 => by cases h1; cases h2; exact xG_in 6184 xcw_195 rfl
  | 196, _, h1, h2 => by cases h1; cases h2; exact xG_in 6188 xcw_196 rfl
  | 197, _, h1, h2 => by cases h1; cases h2; exact xG_in 6192 xcw_197 rfl
  | 198, _, h1, h2 => by cases h1; cases h2; exact xG_in 6196 xcw_198 rfl
  | 199, _, h1, h2 => by cases h1; cases h2; exact xG_in 6201 xcw_199 rfl
  | 200, _, h1, h2 => by cases h1; cases h2; exact xG_in 6206 xcw_200 rfl
  | 201, _, h1, h2 => by cases h1; cases h2; exact xG_in 7082 xcw_201 rfl
  | 202, _, h1, h2 => by cases h1; cases h2; exact xG_in 7086 xcw_202 rfl
  | 203, _, h1, h2 => by cases h1; cases h2; exact xG_in 7090 xcw_203 rfl
  | 204, _, h1, h2 => by cases h1; cases h2; exact xG_in 7101 xcw_204 rfl
  | 205, _, h1, h2 => by cases h1; cases h2; exact xG_in 7161 xcw_205 rfl
  | 206, _, h1, h2 => by cases h1; cases h2; exact xG_in 8004 xcw_206 rfl
  | 207, _, h1, h2 => by cases h1; cases h2; exact xG_in 8091 xcw_207 rfl
  | 208, _, h1, h2 => by cases h1; cases h2; exact xG_in 9101 xcw_208 rfl
  | 209, _, h1, h2 => by cases h1; cases h2; exact xG_in 7097 xcw_209 rfl
  | 210, _, h1, h2 => by cases h1; cases h2; exact xG_in 7112 xcw_210 rfl
  | 211, _, h1, h2 => by cases h1; cases h2; exact xG_in 7094 xcw_211 rfl
  | 212, _, h1, h2 => by cases h1; cases h2; exact xG_in 7109 xcw_212 rfl
  | 213, _, h1, h2 => by cases h1; cases h2; exact xG_in 7105 xcw_213 rfl
  | 214, _, h1, h2 => by cases h1; cases h2; exact xG_in 7116 xcw_214 rfl
  | 215, _, h1, h2 => by cases h1; cases h2; exact xG_in 7121 xcw_215 rfl
  | 216, _, h1, h2 => by cases h1; cases h2; exact xG_in 8150 xcw_216 rfl
  | 217, _, h1, h2 => by cases h1; cases h2; exact xG_in 7125 xcw_217 rfl
  | 218, _, h1, h2 => by cases h1; cases h2; exact xG_in 7129 xcw_218 rfl
  | 219, _, h1, h2 => by cases h1; cases h2; exact xG_in 7149 xcw_219 rfl
  | 220, _, h1, h2 => by cases h1; cases h2; exact xG_in 7152 xcw_220 rfl
  | 221, _, h1, h2 => by cases h1; cases h2; exact xG_in 7155 xcw_221 rfl
  | 222, _, h1, h2 => by cases h1; cases h2; exact xG_in 7145 xcw_222 rfl
  | 223, _, h1, h2 => by cases h1; cases h2; exact xG_in 7236 xcw_223 rfl
  | 224, _, h1, h2 => by cases h1; cases h2; exact xG_in 7170 xcw_224 rfl
  | 225, _, h1, h2 => by cases h1; cases h2; exact xG_in 7176 xcw_225 rfl
  | 226, _, h1, h2 => by cases h1; cases h2; exact xG_in 7141 xcw_226 rfl
  | 227, _, h1, h2 => by cases h1; cases h2; exact xG_in 7232 xcw_227 rfl
  | 228, _, h1, h2 => by cases h1; cases h2; exact xG_in 7184 xcw_228 rfl
  | 229, _, h1, h2 => by cases h1; cases h2; exact xG_in 7180 xcw_229 rfl
  | 230, _, h1, h2 => by cases h1; cases h2; exact xG_in 7204 xcw_230 rfl
  | 231, _, h1, h2 => by cases h1; cases h2; exact xG_in 7212 xcw_231 rfl
  | 232, _, h1, h2 => by cases h1; cases h2; exact xG_in 7208 xcw_232 rfl
  | 233, _, h1, h2 => by cases h1; cases h2; exact xG_in 7133 xcw_233 rfl
  | 234, _, h1, h2 => by cases h1; cases h2; exact xG_in 8000 xcw_234 rfl
  | 235, _, h1, h2 => by cases h1; cases h2; exact xG_in 7216 xcw_235 rfl
  | 236, _, h1, h2 => by cases h1; cases h2; exact xG_in 7200 xcw_236 rfl
  | 237, _, h1, h2 => by cases h1; cases h2; exact xG_in 7224 xcw_237 rfl
  | 238, _, h1, h2 => by cases h1; cases h2; exact xG_in 7188 xcw_238 rfl
  | 239, _, h1, h2 => by cases h1; cases h2; exact xG_in 7192 xcw_239 rfl
  | 240, _, h1, h2 => by cases h1; cases h2; exact xG_in 7196 xcw_240 rfl
  | 241, _, h1, h2 => by cases h1; cases h2; exact xG_in 7220 xcw_241 rfl
  | 242, _, h1, h2 => by cases h1; cases h2; exact xG_in 7228 xcw_242 rfl
  | 243, _, h1, h2 => by cases h1; cases h2; exact xG_in 7165 xcw_243 rfl
  | 244, _, h1, h2 => by cases h1; cases h2; exact xG_in 7137 xcw_244 rfl
  | 245, _, h1, h2 => by cases h1; cases h2; exact xG_in 8024 xcw_245 rfl
  | 246, _, h1, h2 => by cases h1; cases h2; exact xG_in 8020 xcw_246 rfl
  | 247, _, h1, h2 => by cases h1; cases h2; exact xG_in 8028 xcw_247 rfl
  | 248, _, h1, h2 => by cases h1; cases h2; exact xG_in 8016 xcw_248 rfl
  | 249, _, h1, h2 => by cases h1; cases h2; exact xG_in 8012 xcw_249 rfl
  | 250, _, h1, h2 => by cases h1; cases h2; exact xG_in 8008 xcw_250 rfl
  | 251, _, h1, h2 => by cases h1; cases h2; exact xG_in 8051 xcw_251 rfl
  | 252, _, h1, h2 => by cases h1; cases h2; exact xG_in 8062 xcw_252 rfl
  | 253, _, h1, h2 => by cases h1; cases h2; exact xG_in 8083 xcw_253 rfl
  | 254, _, h1, h2 => by cases h1; cases h2; exact xG_in 8103 xcw_254 rfl
  | 255, _, h1, h2 => by cases h1; cases h2; exact xG_in 8115 xcw_255 rfl
  | 256, _, h1, h2 => by cases h1; cases h2; exact xG_in 8126 xcw_256 rfl
  | 257, _, h1, h2 => by cases h1; cases h2; exact xG_in 8134 xcw_257 rfl
  | 258, _, h1, h2 => by cases h1; cases h2; exact xG_in 9021 xcw_258 rfl
  | 259, _, h1, h2 => by cases h1; cases h2; exact xG_in 9070 xcw_259 rfl
  | 260, _, h1, h2 => by cases h1; cases h2; exact xG_in 8048 xcw_260 rfl
  | 261, _, h1, h2 => by cases h1; cases h2; exact xG_in 8066 xcw_261 rfl
  | 262, _, h1, h2 => by cases h1; cases h2; exact xG_in 8166 xcw_262 rfl
  | 263, _, h1, h2 => by cases h1; cases h2; exact xG_in 8118 xcw_263 rfl
  | 264, _, h1, h2 => by cases h1; cases h2; exact xG_in 8087 xcw_264 rfl
  | 265, _, h1, h2 => by cases h1; cases h2; exact xG_in 8059 xcw_265 rfl
  | 266, _, h1, h2 => by cases h1; cases h2; exact xG_in 8055 xcw_266 rfl
  | 267, _, h1, h2 => by cases h1; cases h2; exact xG_in 8044 xcw_267 rfl
  | 268, _, h1, h2 => by cases h1; cases h2; exact xG_in 8071 xcw_268 rfl
  | 269, _, h1, h2 => by cases h1; cases h2; exact xG_in 8075 xcw_269 rfl
  | 270, _, h1, h2 => by cases h1; cases h2; exact xG_in 8040 xcw_270 rfl
  | 271, _, h1, h2 => by cases h1; cases h2; exact xG_in 8036 xcw_271 rfl
  | 272, _, h1, h2 => by cases h1; cases h2; exact xG_in 8032 xcw_272 rfl
  | 273, _, h1, h2 => by cases h1; cases h2; exact xG_in 8079 xcw_273 rfl
  | 274, _, h1, h2 => by cases h1; cases h2; exact xG_in 8095 xcw_274 rfl
  | 275, _, h1, h2 => by cases h1; cases h2; exact xG_in 8099 xcw_275 rfl
  | 276, _, h1, h2 => by cases h1; cases h2; exact xG_in 8107 xcw_276 rfl
  | 277, _, h1, h2 => by cases h1; cases h2; exact xG_in 8111 xcw_277 rfl
  | 278, _, h1, h2 => by cases h1; cases h2; exact xG_in 8122 xcw_278 rfl
  | 279, _, h1, h2 => by cases h1; cases h2; exact xG_in 8138 xcw_279 rfl
  | 280, _, h1, h2 => by cases h1; cases h2; exact xG_in 8130 xcw_280 rfl
  | 281, _, h1, h2 => by cases h1; cases h2; exact xG_in 8142 xcw_281 rfl
  | 282, _, h1, h2 => by cases h1; cases h2; exact xG_in 8170 xcw_282 rfl
  | 283, _, h1, h2 => by cases h1; cases h2; exact xG_in 8162 xcw_283 rfl
  | 284, _, h1, h2 => by cases h1; cases h2; exact xG_in 8158 xcw_284 rfl
  | 285, _, h1, h2 => by cases h1; cases h2; exact xG_in 8178 xcw_285 rfl
  | 286, _, h1, h2 => by cases h1; cases h2; exact xG_in 8154 xcw_286 rfl
  | 287, _, h1, h2 => by cases h1; cases h2; exact xG_in 8146 xcw_287 rfl
  | 288, _, h1, h2 => by cases h1; cases h2; exact xG_in 8174 xcw_288 rfl
  | 289, _, h1, h2 => by cases h1; cases h2; exact xG_in 8182 xcw_289 rfl
  | 290, _, h1, h2 => by cases h1; cases h2; exact xG_in 8186 xcw_290 rfl
  | 291, _, h1, h2 => by cases h1; cases h2; exact xG_in 8190 xcw_291 rfl
  | 292, _, h1, h2 => by cases h1; cases h2; exact xG_in 8195 xcw_292 rfl
  | 293, _, h1, h2 => by cases h1; cases h2; exact xG_in 8200 xcw_293 rfl
  | 294, _, h1, h2 => by cases h1; cases h2; exact xG_in 8204 xcw_294 rfl
  | 295, _, h1, h2 => by cases h1; cases h2; exact xG_in 8209 xcw_295 rfl
  | 296, _, h1, h2 => by cases h1; cases h2; exact xG_in 8233 xcw_296 rfl
  | 297, _, h1, h2 => by cases h1; cases h2; exact xG_in 8237 xcw_297 rfl
  | 298, _, h1, h2 => by cases h1; cases h2; exact xG_in 8220 xcw_298 rfl
  | 299, _, h1, h2 => by cases h1; cases h2; exact xG_in 8213 xcw_299 rfl
  | 300, _, h1, h2 => by cases h1; cases h2; exact xG_in 8225 xcw_300 rfl
  | 301, _, h1, h2 => by cases h1; cases h2; exact xG_in 8217 xcw_301 rfl
  | 302, _, h1, h2 => by cases h1; cases h2; exact xG_in 8229 xcw_302 rfl
  | 303, _, h1, h2 => by cases h1; cases h2; exact xG_in 9001 xcw_303 rfl
  | 304, _, h1, h2 => by cases h1; cases h2; exact xG_in 9005 xcw_304 rfl
  | 305, _, h1, h2 => by cases h1; cases h2; exact xG_in 9017 xcw_305 rfl
  | 306, _, h1, h2 => by cases h1; cases h2; exact xG_in 9013 xcw_306 rfl
  | 307, _, h1, h2 => by cases h1; cases h2; exact xG_in 9009 xcw_307 rfl
  | 308, _, h1, h2 => by cases h1; cases h2; exact xG_in 9025 xcw_308 rfl
  | 309, _, h1, h2 => by cases h1; cases h2; exact xG_in 9029 xcw_309 rfl
  | 310, _, h1, h2 => by cases h1; cases h2; exact xG_in 9033 xcw_310 rfl
  | 311, _, h1, h2 => by cases h1; cases h2; exact xG_in 9038 xcw_311 rfl
  | 312, _, h1, h2 => by cases h1; cases h2; exact xG_in 9046 xcw_312 rfl
  | 313, _, h1, h2 => by cases h1; cases h2; exact xG_in 9042 xcw_313 rfl
  | 314, _, h1, h2 => by cases h1; cases h2; exact xG_in 9050 xcw_314 rfl
  | 315, _, h1, h2 => by cases h1; cases h2; exact xG_in 9058 xcw_315 rfl
  | 316, _, h1, h2 => by cases h1; cases h2; exact xG_in 9067 xcw_316 rfl
  | 317, _, h1, h2 => by cases h1; cases h2; exact xG_in 9063 xcw_317 rfl
  | 318, _, h1, h2 => by cases h1; cases h2; exact xG_in 9054 xcw_318 rfl
  | 319, _, h1, h2 => by cases h1; cases h2; exact xG_in 9074 xcw_319 rfl
  | 320, _, h1, h2 => by cases h1; cases h2; exact xG_in 9078 xcw_320 rfl
  | 321, _, h1, h2 => by cases h1; cases h2; exact xG_in 9087 xcw_321 rfl
  | 322, _, h1, h2 => by cases h1; cases h2; exact xG_in 9083 xcw_322 rfl
  | 323, _, h1, h2 => by cases h1; cases h2; exact xG_in 9092 xcw_323 rfl
  | 324, _, h1, h2 => by cases h1; cases h2; exact xG_in 9096 xcw_324 rfl
  | 325, _, h1, h2 => by cases h1; cases h2; exact xG_in 9109 xcw_325 rfl
  | 326, _, h1, h2 => by cases h1; cases h2; exact xG_in 9105 xcw_326 rfl
  | 327, _, h1, h2 => by cases h1; cases h2; exact xG_in 9113 xcw_327 rfl
  | 328, _, h1, h2 => by cases h1; cases h2; exact xG_in 9124 xcw_328 rfl
  | 329, _, h1, h2 => by cases h1; cases h2; exact xG_in 9133 xcw_329 rfl
  | 330, _, h1, h2 => by cases h1; cases h2; exact xG_in 9129 xcw_330 rfl
  | 331, _, h1, h2 => by cases h1; cases h2; exact xG_in 9120 xcw_331 rfl
  | 332, _, h1, h2 => by cases h1; cases h2; exact xG_in 9117 xcw_332 rfl
  | 333, _, h1, h2 => by cases h1; cases h2; exact xG_in 9137 xcw_333 rfl
  | 334, _, h1, h2 => by cases h1; cases h2; exact xG_in 9141 xcw_334 rfl
  | 335, _, h1, h2 => by cases h1; cases h2; exact xG_in 9145 xcw_335 rfl
  | 336, _, h1, h2 => by cases h1; cases h2; exact xG_in 9149 xcw_336 rfl
  | 337, _, h1, h2 => by cases h1; cases h2; exact xG_in 9153 xcw_337 rfl
  | 338, _, h1, h2 => by cases h1; cases h2; exact xG_in 9182 xcw_338 rfl
  | 339, _, h1, h2 => by cases h1; cases h2; exact xG_in 9170 xcw_339 rfl
  | 340, _, h1, h2 => by cases h1; cases h2; exact xG_in 9174 xcw_340 rfl
  | 341, _, h1, h2 => by cases h1; cases h2; exact xG_in 9178 xcw_341 rfl
  | 342, _, h1, h2 => by cases h1; cases h2; exact xG_in 9166 xcw_342 rfl
  | 343, _, h1, h2 => by cases h1; cases h2; exact xG_in 9187 xcw_343 rfl
  | 344, _, h1, h2 => by cases h1; cases h2; exact xG_in 9191 xcw_344 rfl
  | 345, _, h1, h2 => by cases h1; cases h2; exact xG_in 9162 xcw_345 rfl
  | 346, _, h1, h2 => by cases h1; cases h2; exact xG_in 9157 xcw_346 rfl
  | 347, _, h1, h2 => by cases h1; cases h2; exact xG_in 9195 xcw_347 rfl
  | 348, _, h1, h2 => by cases h1; cases h2; exact xG_in 9199 xcw_348 rfl
  | 349, _, h1, h2 => by cases h1; cases h2; exact xG_in 9207 xcw_349 rfl
  | 350, _, h1, h2 => by cases h1; cases h2; exact xG_in 9203 xcw_350 rfl
  | 351, _, h1, h2 => by cases h1; cases h2; exact xG_in 9211 xcw_351 rfl
  | 352, _, h1, h2 => by cases h1; cases h2; exact xG_in 6020 xcw_352 rfl
  | 353, _, h1, h2 => by cases h1; cases h2; exact xG_in 4206 xcw_353 rfl
  | 354, _, h1, h2 => by cases h1; cases h2; exact xG_in 3067 xcw_354 rfl
  | 355, _, h1, h2 => by cases h1; cases h2; exact xG_in 2019 xcw_355 rfl
  | k + 356, hy, _, _ => by omega
