theorem oc_43_0 : cGood 43 [(47, 47), (0, 1), cX, cX, cX] := cGood_cut (j := 1) (c := 0) rfl (cAll_ok op_43_48) (cAll_ok op_43_49)
theorem oc_43_1 : cGood 43 [(48, 48), (0, 1), cX, cX, cX] := cGood_cut (j := 1) (c := 0) rfl (cAll_ok op_43_50) (cAll_ok op_43_51)
theorem oc_43_2 : cGood 43 [(49, 49), (0, 1), cX, cX, cX] := cGood_cut (j := 1) (c := 0) rfl (cAll_ok op_43_52) (cAll_ok op_43_53)
theorem oc_43_3 : cGood 43 [(50, 50), (0, 1), cX, cX, cX] := cGood_cut (j := 1) (c := 0) rfl (cAll_ok op_43_54) (cAll_ok op_43_55)
theorem oc_43_4 : cGood 43 [(51, 51), (0, 1), cX, cX, cX] := cGood_cut (j := 1) (c := 0) rfl (cAll_ok op_43_56) (cAll_ok op_43_57)
theorem oc_43_5 : cGood 43 [(52, 52), (0, 1), cX, cX, cX] := cGood_cut (j := 1) (c := 0) rfl (cAll_ok op_43_58) (cAll_ok op_43_59)
theorem oc_43_6 : cGood 43 [(53, 53), (0, 1), cX, cX, cX] := cGood_cut (j := 1) (c := 0) rfl (cAll_ok op_43_60) (cAll_ok op_43_61)
theorem oc_43_7 : cGood 43 [(54, 54), (0, 1), cX, cX, cX] := cGood_cut (j := 1) (c := 0) rfl (cAll_ok op_43_62) (cAll_ok op_43_63)
theorem oc_43_8 : cGood 43 [(55, 55), (0, 1), cX, cX, cX] := cGood_cut (j := 1) (c := 0) rfl (cAll_ok op_43_64) (cAll_ok op_43_65)
theorem oc_43_9 : cGood 43 [(56, 56), (0, 1), cX, cX, cX] := cGood_cut (j := 1) (c := 0) rfl (cAll_ok op_43_66) (cAll_ok op_43_67)
theorem oc_43_10 : cGood 43 [(57, 57), (0, 1), cX, cX, cX] := cGood_cut (j := 1) (c := 0) rfl (cAll_ok op_43_68) (cAll_ok op_43_69)
theorem oc_43_11 : cGood 43 [(58, 58), (0, 1), cX, cX, cX] := cGood_cut (j := 1) (c := 0) rfl (cAll_ok op_43_70) (cAll_ok op_43_71)
theorem oc_43_12 : cGood 43 [(59, 59), (0, 1), cX, cX, cX] := cGood_cut (j := 1) (c := 0) rfl (cAll_ok op_43_72) (cAll_ok op_43_73)
theorem oc_43_13 : cGood 43 [(60, 60), (0, 1), cX, cX, cX] := cGood_cut (j := 1) (c := 0) rfl (cAll_ok op_43_74) (cAll_ok op_43_75)
theorem oc_43_14 : cGood 43 [(59, 60), (0, 1), cX, cX, cX] := cGood_cut (j := 0) (c := 59) rfl oc_43_12 oc_43_13
theorem oc_43_15 : cGood 43 [(58, 60), (0, 1), cX, cX, cX] := cGood_cut (j := 0) (c := 58) rfl oc_43_11 oc_43_14
theorem oc_43_16 : cGood 43 [(57, 60), (0, 1), cX, cX, cX] := cGood_cut (j := 0) (c := 57) rfl oc_43_10 oc_43_15
theorem oc_43_17 : cGood 43 [(56, 60), (0, 1), cX, cX, cX] := cGood_cut (j := 0) (c := 56) rfl oc_43_9 oc_43_16
theorem oc_43_18 : cGood 43 [(55, 60), (0, 1), cX, cX, cX] := cGood_cut (j := 0) (c := 55) rfl oc_43_8 oc_43_17
theorem oc_43_19 : cGood 43 [(54, 60), (0, 1), cX, cX, cX] := cGood_cut (j := 0) (c := 54) rfl oc_43_7 oc_43_18
theorem oc_43_20 : cGood 43 [(53, 60), (0, 1), cX, cX, cX] := cGood_cut (j := 0) (c := 53) rfl oc_43_6 oc_43_19
theorem oc_43_21 : cGood 43 [(52, 60), (0, 1), cX, cX, cX] := cGood_cut (j := 0) (c := 52) rfl oc_43_5 oc_43_20
theorem oc_43_22 : cGood 43 [(51, 60), (0, 1), cX, cX, cX] := cGood_cut (j := 0) (c := 51) rfl oc_43_4 oc_43_21
theorem oc_43_23 : cGood 43 [(50, 60), (0, 1), cX, cX, cX] := cGood_cut (j := 0) (c := 50) rfl oc_43_3 oc_43_22
theorem oc_43_24 : cGood 43 [(49, 60), (0, 1), cX, cX, cX] := cGood_cut (j := 0) (c := 49) rfl oc_43_2 oc_43_23
theorem oc_43_25 : cGood 43 [(48, 60), (0, 1), cX, cX, cX] := cGood_cut (j := 0) (c := 48) rfl oc_43_1 oc_43_24
theorem oc_43_26 : cGood 43 [(47, 60), (0, 1), cX, cX, cX] := cGood_cut (j := 0) (c := 47) rfl oc_43_0 oc_43_25
theorem oc_43_27 : cGood 43 [(46, 60), (0, 1), cX, cX, cX] := cGood_cut (j := 0) (c := 46) rfl (cAll_ok op_43_47) oc_43_26
theorem oc_43_28 : cGood 43 [(45, 60), (0, 1), cX, cX, cX] := cGood_cut (j := 0) (c := 45) rfl (cAll_ok op_43_46) oc_43_27
theorem oc_43_29 : cGood 43 [(44, 60), (0, 1), cX, cX, cX] := cGood_cut (j := 0) (c := 44) rfl (cAll_ok op_43_45) oc_43_28
theorem oc_43_30 : cGood 43 [(43, 60), (0, 1), cX, cX, cX] := cGood_cut (j := 0) (c := 43) rfl (cAll_ok op_43_44) oc_43_29
theorem oc_43_31 : cGood 43 [(42, 60), (0, 1), cX, cX, cX] := cGood_cut (j := 0) (c := 42) rfl (cAll_ok op_43_43) oc_43_30
theorem oc_43_32 : cGood 43 [(41, 60), (0, 1), cX, cX, cX] := cGood_cut (j := 0) (c := 41) rfl (cAll_ok op_43_42) oc_43_31
theorem oc_43_33 : cGood 43 [(40, 60), (0, 1), cX, cX, cX] := cGood_cut (j := 0) (c := 40) rfl (cAll_ok op_43_41) oc_43_32
theorem oc_43_34 : cGood 43 [(39, 60), (0, 1), cX, cX, cX] := cGood_cut (j := 0) (c := 39) rfl (cAll_ok op_43_40) oc_43_33
theorem oc_43_35 : cGood 43 [(38, 60), (0, 1), cX, cX, cX] := cGood_cut (j := 0) (c := 38) rfl (cAll_ok op_43_39) oc_43_34
theorem oc_43_36 : cGood 43 [(37, 60), (0, 1), cX, cX, cX] := cGood_cut (j := 0) (c := 37) rfl (cAll_ok op_43_38) oc_43_35
theorem oc_43_37 : cGood 43 [(36, 60), (0, 1), cX, cX, cX] := cGood_cut (j := 0) (c := 36) rfl (cAll_ok op_43_37) oc_43_36
theorem oc_43_38 : cGood 43 [(35, 60), (0, 1), cX, cX, cX] := cGood_cut (j := 0) (c := 35) rfl (cAll_ok op_43_36) oc_43_37
theorem oc_43_39 : cGood 43 [(34, 60), (0, 1), cX, cX, cX] := cGood_cut (j := 0) (c := 34) rfl (cAll_ok op_43_35) oc_43_38
theorem oc_43_40 : cGood 43 [(33, 60), (0, 1), cX, cX, cX] := cGood_cut (j := 0) (c := 33) rfl (cAll_ok op_43_34) oc_43_39
theorem oc_43_41 : cGood 43 [(32, 60), (0, 1), cX, cX, cX] := cGood_cut (j := 0) (c := 32) rfl (cAll_ok op_43_33) oc_43_40
theorem oc_43_42 : cGood 43 [(31, 60), (0, 1), cX, cX, cX] := cGood_cut (j := 0) (c := 31) rfl (cAll_ok op_43_32) oc_43_41
theorem oc_43_43 : cGood 43 [(30, 60), (0, 1), cX, cX, cX] := cGood_cut (j := 0) (c := 30) rfl (cAll_ok op_43_31) oc_43_42
theorem oc_43_44 : cGood 43 [(29, 60), (0, 1), cX, cX, cX] := cGood_cut (j := 0) (c := 29) rfl (cAll_ok op_43_30) oc_43_43
theorem oc_43_45 : cGood 43 [(28, 60), (0, 1), cX, cX, cX] := cGood_cut (j := 0) (c := 28) rfl (cAll_ok op_43_29) oc_43_44
theorem oc_43_46 : cGood 43 [(27, 60), (0, 1), cX, cX, cX] := cGood_cut (j := 0) (c := 27) rfl (cAll_ok op_43_28) oc_43_45
theorem oc_43_47 : cGood 43 [(26, 60), (0, 1), cX, cX, cX] := cGood_cut (j := 0) (c := 26) rfl (cAll_ok op_43_27) oc_43_46
theorem oc_43_48 : cGood 43 [(25, 60), (0, 1), cX, cX, cX] := cGood_cut (j := 0) (c := 25) rfl (cAll_ok op_43_26) oc_43_47
theorem oc_43_49 : cGood 43 [(24, 60), (0, 1), cX, cX, cX] := cGood_cut (j := 0) (c := 24) rfl (cAll_ok op_43_25) oc_43_48
theorem oc_43_50 : cGood 43 [(23, 60), (0, 1), cX, cX, cX] := cGood_cut (j := 0) (c := 23) rfl (cAll_ok op_43_24) oc_43_49
theorem oc_43_51 : cGood 43 [(22, 60), (0, 1), cX, cX, cX] := cGood_cut (j := 0) (c := 22) rfl (cAll_ok op_43_23) oc_43_50
theorem oc_43_52 : cGood 43 [(21, 60), (0, 1), cX, cX, cX] := cGood_cut (j := 0) (c := 21) rfl (cAll_ok op_43_22) oc_43_51
theorem oc_43_53 : cGood 43 [(20, 60), (0, 1), cX, cX, cX] := cGood_cut (j := 0) (c := 20) rfl (cAll_ok op_43_21) oc_43_52
theorem oc_43_54 : cGood 43 [(19, 60), (0, 1), cX, cX, cX] := cGood_cut (j := 0) (c := 19) rfl (cAll_ok op_43_20) oc_43_53
theorem oc_43_55 : cGood 43 [(18, 60), (0, 1), cX, cX, cX] := cGood_cut (j := 0) (c := 18) rfl (cAll_ok op_43_19) oc_43_54
theorem oc_43_56 : cGood 43 [(17, 60), (0, 1), cX, cX, cX] := cGood_cut (j := 0) (c := 17) rfl (cAll_ok op_43_18) oc_43_55
theorem oc_43_57 : cGood 43 [(16, 60), (0, 1), cX, cX, cX] := cGood_cut (j := 0) (c := 16) rfl (cAll_ok op_43_17) oc_43_56
theorem oc_43_58 : cGood 43 [(15, 60), (0, 1), cX, cX, cX] := cGood_cut (j := 0) (c := 15) rfl (cAll_ok op_43_16) oc_43_57
theorem oc_43_59 : cGood 43 [(14, 60), (0, 1), cX, cX, cX] := cGood_cut (j := 0) (c := 14) rfl (cAll_ok op_43_15) oc_43_58
theorem oc_43_60 : cGood 43 [(13, 60), (0, 1), cX, cX, cX] := cGood_cut (j := 0) (c := 13) rfl (cAll_ok op_43_14) oc_43_59
theorem oc_43_61 : cGood 43 [(12, 60), (0, 1), cX, cX, cX] := cGood_cut (j := 0) (c := 12) rfl (cAll_ok op_43_13) oc_43_60
theorem oc_43_62 : cGood 43 [(11, 60), (0, 1), cX, cX, cX] := cGood_cut (j := 0) (c := 11) rfl (cAll_ok op_43_12) oc_43_61
theorem oc_43_63 : cGood 43 [(10, 60), (0, 1), cX, cX, cX] := cGood_cut (j := 0) (c := 10) rfl (cAll_ok op_43_11) oc_43_62
theorem oc_43_64 : cGood 43 [(9, 60), (0, 1), cX, cX, cX] := cGood_cut (j := 0) (c := 9) rfl (cAll_ok op_43_10) oc_43_63
theorem oc_43_65 : cGood 43 [(8, 60), (0, 1), cX, cX, cX] := cGood_cut (j := 0) (c := 8) rfl (cAll_ok op_43_9) oc_43_64
theorem oc_43_66 : cGood 43 [(7, 60), (0, 1), cX, cX, cX] := cGood_cut (j := 0) (c := 7) rfl (cAll_ok op_43_8) oc_43_65
theorem oc_43_67 : cGood 43 [(6, 60), (0, 1), cX, cX, cX] := cGood_cut (j := 0) (c := 6) rfl (cAll_ok op_43_7) oc_43_66
theorem oc_43_68 : cGood 43 [(5, 60), (0, 1), cX, cX, cX] := cGood_cut (j := 0) (c := 5) rfl (cAll_ok op_43_6) oc_43_67
theorem oc_43_69 : cGood 43 [(4, 60), (0, 1), cX, cX, cX] := cGood_cut (j := 0) (c := 4) rfl (cAll_ok op_43_5) oc_43_68
theorem oc_43_70 : cGood 43 [(3, 60), (0, 1), cX, cX, cX] := cGood_cut (j := 0) (c := 3) rfl (cAll_ok op_43_4) oc_43_69
theorem oc_43_71 : cGood 43 [(2, 60), (0, 1), cX, cX, cX] := cGood_cut (j := 0) (c := 2) rfl (cAll_ok op_43_3) oc_43_70
theorem oc_43_72 : cGood 43 [(1, 60), (0, 1), cX, cX, cX] := cGood_cut (j := 0) (c := 1) rfl (cAll_ok op_43_2) oc_43_71
theorem oc_43_73 : cGood 43 [(1, 60), (0, 2147483647), cX, cX, cX] := cGood_cut (j := 1) (c := 1) rfl oc_43_72 (cAll_ok op_43_76)
theorem oc_43_74 : cGood 43 [(1, 60), cX, cX, cX, cX] := cGood_cut (j := 1) (c := (-1)) rfl (cAll_ok op_43_1) oc_43_73
theorem oc_43_75 : cGood 43 [(1, 2147483647), cX, cX, cX, cX] := cGood_cut (j := 0) (c := 60) rfl oc_43_74 (cAll_ok op_43_77)
theorem oc_43_76 : cGood 43 [cX, cX, cX, cX, cX] := cGood_cut (j := 0) (c := 0) rfl (cAll_ok op_43_0) oc_43_75
theorem op_43 : cGood 43 [cX, cX, cX, cX, cX] := oc_43_76
