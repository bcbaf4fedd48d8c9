/-! WORDS, by program: the worlds' shapes, the words of fields, calls, constants, throws -/
abbrev gShC : List gShp := [.inr (10, [(3, 1), (3, 11), (3, 21), (0, 0), (3, 31), (0, 0), (3, 32), (3, 34), (3, 36), (3, 37), (3, 41), (3, 44), (3, 50), (3, 55)]), .inr (2, [(3, 2), (3, 3), (3, 4), (3, 5), (3, 6), (3, 7), (3, 8), (3, 9), (3, 10), (0, 0), (0, 0), (0, 0), (0, 0), (0, 0)]), .inl (1, 24), .inl (0, 24), .inl (0, 60), .inl (0, 60), .inl (0, 24), .inl (0, 24), .inl (0, 24), .inl (0, 24), .inl (1, 9), .inr (2, [(3, 12), (3, 13), (3, 14), (3, 15), (3, 16), (3, 17), (3, 18), (3, 19), (3, 20), (0, 0), (0, 0), (0, 0), (0, 0), (0, 0)]), .inl (1, 24), .inl (0, 24), .inl (0, 60), .inl (0, 60), .inl (0, 24), .inl (0, 24), .inl (0, 24), .inl (0, 24), .inl (1, 9), .inr (2, [(3, 22), (3, 23), (3, 24), (3, 25), (3, 26), (3, 27), (3, 28), (3, 29), (3, 30), (0, 0), (0, 0), (0, 0), (0, 0), (0, 0)]), .inl (1, 24), .inl (0, 24), .inl (0, 60), .inl (0, 60), .inl (0, 24), .inl (0, 24), .inl (0, 24), .inl (0, 24), .inl (1, 9), .inl (3, 8), .inr (5, [(3, 33), (0, 0), (0, 0), (0, 0), (0, 0), (0, 0)]), .inl (2, 900), .inr (4, [(3, 35), (0, 0)]), .inl (2, 256), .inr (1, [(0, 0), (0, 0)]), .inr (3, [(3, 38), (3, 39), (3, 40), (0, 0)]), .inl (0, 30), .inl (0, 30), .inl (0, 30), .inr (6, [(3, 42), (0, 0), (0, 0), (0, 0), (0, 0), (0, 0), (0, 0)]), .inr (7, [(3, 43), (0, 0)]), .inl (0, 24), .inr (8, [(3, 45), (3, 47), (3, 48), (3, 49)]), .inr (7, [(3, 46), (0, 0)]), .inl (0, 24), .inl (0, 24), .inl (0, 24), .inl (0, 24), .inr (0, [(3, 51), (3, 52), (3, 53), (3, 54), (0, 0)]), .inl (0, 24), .inl (0, 24), .inl (0, 24), .inl (0, 24), .inr (9, [(3, 56)]), .inl (0, 24), .inr (2, [(3, 58), (3, 59), (3, 60), (3, 61), (3, 62), (3, 63), (3, 64), (3, 65), (3, 66), (0, 0), (0, 0), (0, 0), (0, 0), (0, 0)]), .inl (1, 24), .inl (0, 24), .inl (0, 60), .inl (0, 60), .inl (0, 24), .inl (0, 24), .inl (0, 24), .inl (0, 24), .inl (1, 9), .inr (2, [(3, 68), (3, 69), (3, 70), (3, 71), (3, 72), (3, 73), (3, 74), (3, 75), (3, 76), (0, 0), (0, 0), (0, 0), (0, 0), (0, 0)]), .inl (1, 24), .inl (0, 24), .inl (0, 60), .inl (0, 60), .inl (0, 24), .inl (0, 24), .inl (0, 24), .inl (0, 24), .inl (1, 9), .inr (2, [(3, 78), (3, 79), (3, 80), (3, 81), (3, 82), (3, 83), (3, 84), (3, 85), (3, 86), (0, 0), (0, 0), (0, 0), (0, 0), (0, 0)]), .inl (1, 24), .inl (0, 24), .inl (0, 60), .inl (0, 60), .inl (0, 24), .inl (0, 24), .inl (0, 24), .inl (0, 24), .inl (1, 9), .inr (2, [(3, 88), (3, 89), (3, 90), (3, 91), (3, 92), (3, 93), (3, 94), (3, 95), (3, 96), (0, 0), (0, 0), (0, 0), (0, 0), (0, 0)]), .inl (1, 24), .inl (0, 24), .inl (0, 60), .inl (0, 60), .inl (0, 24), .inl (0, 24), .inl (0, 24), .inl (0, 24), .inl (1, 9), .inr (2, [(3, 98), (3, 99), (3, 100), (3, 101), (3, 102), (3, 103), (3, 104), (3, 105), (3, 106), (0, 0), (0, 0), (0, 0), (0, 0), (0, 0)]), .inl (1, 24), .inl (0, 24), .inl (0, 60), .inl (0, 60), .inl (0, 24), .inl (0, 24), .inl (0, 24), .inl (0, 24), .inl (1, 9), .inr (2, [(3, 108), (3, 109), (3, 110), (3, 111), (3, 112), (3, 113), (3, 114), (3, 115), (3, 116), (0, 0), (0, 0), (0, 0), (0, 0), (0, 0)]), .inl (1, 24), .inl (0, 24), .inl (0, 60), .inl (0, 60), .inl (0, 24), .inl (0, 24), .inl (0, 24), .inl (0, 24), .inl (1, 9), .inr (2, [(3, 118), (3, 119), (3, 120), (3, 121), (3, 122), (3, 123), (3, 124), (3, 125), (3, 126), (0, 0), (0, 0), (0, 0), (0, 0), (0, 0)]), .inl (1, 24), .inl (0, 24), .inl (0, 60), .inl (0, 60), .inl (0, 24), .inl (0, 24), .inl (0, 24), .inl (0, 24), .inl (1, 9), .inr (2, [(3, 128), (3, 129), (3, 130), (3, 131), (3, 132), (3, 133), (3, 134), (3, 135), (3, 136), (0, 0), (0, 0), (0, 0), (0, 0), (0, 0)]), .inl (1, 24), .inl (0, 24), .inl (0, 60), .inl (0, 60), .inl (0, 24), .inl (0, 24), .inl (0, 24), .inl (0, 24), .inl (1, 9)]
abbrev gShM : List gShp := [.inr (11, [(0, 0), (3, 1), (3, 2), (3, 3), (3, 4), (3, 5), (0, 0), (0, 0), (3, 6), (3, 7), (0, 0), (0, 0), (0, 0), (0, 0), (0, 0), (3, 8), (0, 0), (3, 9), (3, 10), (3, 11), (3, 12), (0, 0), (0, 0), (0, 0), (0, 0), (0, 0), (0, 0), (0, 0), (0, 0), (0, 0), (0, 0), (0, 0), (3, 13), (0, 0), (3, 14), (3, 15), (3, 16), (3, 17), (0, 0), (3, 18), (0, 0)]), .inl (0, 374), .inl (0, 374), .inl (0, 374), .inl (0, 374), .inl (0, 2992), .inl (0, 24), .inl (0, 24), .inl (0, 24), .inl (0, 24), .inl (0, 24), .inl (0, 24), .inl (0, 900), .inl (0, 90), .inl (0, 24), .inl (0, 24), .inl (0, 24), .inl (0, 24), .inl (0, 600)]
theorem sC_0 : gShC[0]? = some (.inr (10, [(3, 1), (3, 11), (3, 21), (0, 0), (3, 31), (0, 0), (3, 32), (3, 34), (3, 36), (3, 37), (3, 41), (3, 44), (3, 50), (3, 55)])) := rfl
theorem sC_1 : gShC[1]? = some (.inr (2, [(3, 2), (3, 3), (3, 4), (3, 5), (3, 6), (3, 7), (3, 8), (3, 9), (3, 10), (0, 0), (0, 0), (0, 0), (0, 0), (0, 0)])) := rfl
theorem sC_2 : gShC[2]? = some (.inl (1, 24)) := rfl
theorem sC_3 : gShC[3]? = some (.inl (0, 24)) := rfl
theorem sC_4 : gShC[4]? = some (.inl (0, 60)) := rfl
theorem sC_5 : gShC[5]? = some (.inl (0, 60)) := rfl
theorem sC_6 : gShC[6]? = some (.inl (0, 24)) := rfl
theorem sC_7 : gShC[7]? = some (.inl (0, 24)) := rfl
theorem sC_8 : gShC[8]? = some (.inl (0, 24)) := rfl
theorem sC_9 : gShC[9]? = some (.inl (0, 24)) := rfl
theorem sC_10 : gShC[10]? = some (.inl (1, 9)) := rfl
theorem sC_11 : gShC[11]? = some (.inr (2, [(3, 12), (3, 13), (3, 14), (3, 15), (3, 16), (3, 17), (3, 18), (3, 19), (3, 20), (0, 0), (0, 0), (0, 0), (0, 0), (0, 0)])) := rfl
theorem sC_12 : gShC[12]? = some (.inl (1, 24)) := rfl
theorem sC_13 : gShC[13]? = some (.inl (0, 24)) := rfl
theorem sC_14 : gShC[14]? = some (.inl (0, 60)) := rfl
theorem sC_15 : gShC[15]? = some (.inl (0, 60)) := rfl
theorem sC_16 : gShC[16]? = some (.inl (0, 24)) := rfl
theorem sC_17 : gShC[17]? = some (.inl (0, 24)) := rfl
theorem sC_18 : gShC[18]? = some (.inl (0, 24)) := rfl
theorem sC_19 : gShC[19]? = some (.inl (0, 24)) := rfl
theorem sC_20 : gShC[20]? = some (.inl (1, 9)) := rfl
theorem sC_21 : gShC[21]? = some (.inr (2, [(3, 22), (3, 23), (3, 24), (3, 25), (3, 26), (3, 27), (3, 28), (3, 29), (3, 30), (0, 0), (0, 0), (0, 0), (0, 0), (0, 0)])) := rfl
theorem sC_22 : gShC[22]? = some (.inl (1, 24)) := rfl
theorem sC_23 : gShC[23]? = some (.inl (0, 24)) := rfl
theorem sC_24 : gShC[24]? = some (.inl (0, 60)) := rfl
theorem sC_25 : gShC[25]? = some (.inl (0, 60)) := rfl
theorem sC_26 : gShC[26]? = some (.inl (0, 24)) := rfl
theorem sC_27 : gShC[27]? = some (.inl (0, 24)) := rfl
theorem sC_28 : gShC[28]? = some (.inl (0, 24)) := rfl
theorem sC_29 : gShC[29]? = some (.inl (0, 24)) := rfl
theorem sC_30 : gShC[30]? = some (.inl (1, 9)) := rfl
theorem sC_31 : gShC[31]? = some (.inl (3, 8)) := rfl
theorem sC_32 : gShC[32]? = some (.inr (5, [(3, 33), (0, 0), (0, 0), (0, 0), (0, 0), (0, 0)])) := rfl
theorem sC_33 : gShC[33]? = some (.inl (2, 900)) := rfl
theorem sC_34 : gShC[34]? = some (.inr (4, [(3, 35), (0, 0)])) := rfl
theorem sC_35 : gShC[35]? = some (.inl (2, 256)) := rfl
theorem sC_36 : gShC[36]? = some (.inr (1, [(0, 0), (0, 0)])) := rfl
theorem sC_37 : gShC[37]? = some (.inr (3, [(3, 38), (3, 39), (3, 40), (0, 0)])) := rfl
theorem sC_38 : gShC[38]? = some (.inl (0, 30)) := rfl
theorem sC_39 : gShC[39]? = some (.inl (0, 30)) := rfl
theorem sC_40 : gShC[40]? = some (.inl (0, 30)) := rfl
theorem sC_41 : gShC[41]? = some (.inr (6, [(3, 42), (0, 0), (0, 0), (0, 0), (0, 0), (0, 0), (0, 0)])) := rfl
theorem sC_42 : gShC[42]? = some (.inr (7, [(3, 43), (0, 0)])) := rfl
theorem sC_43 : gShC[43]? = some (.inl (0, 24)) := rfl
theorem sC_44 : gShC[44]? = some (.inr (8, [(3, 45), (3, 47), (3, 48), (3, 49)])) := rfl
theorem sC_45 : gShC[45]? = some (.inr (7, [(3, 46), (0, 0)])) := rfl
theorem sC_46 : gShC[46]? = some (.inl (0, 24)) := rfl
theorem sC_47 : gShC[47]? = some (.inl (0, 24)) := rfl
theorem sC_48 : gShC[48]? = some (.inl (0, 24)) := rfl
theorem sC_49 : gShC[49]? = some (.inl (0, 24)) := rfl
theorem sC_50 : gShC[50]? = some (.inr (0, [(3, 51), (3, 52), (3, 53), (3, 54), (0, 0)])) := rfl
theorem sC_51 : gShC[51]? = some (.inl (0, 24)) := rfl
theorem sC_52 : gShC[52]? = some (.inl (0, 24)) := rfl
theorem sC_53 : gShC[53]? = some (.inl (0, 24)) := rfl
theorem sC_54 : gShC[54]? = some (.inl (0, 24)) := rfl
theorem sC_55 : gShC[55]? = some (.inr (9, [(3, 56)])) := rfl
theorem sC_56 : gShC[56]? = some (.inl (0, 24)) := rfl
theorem sC_57 : gShC[57]? = some (.inr (2, [(3, 58), (3, 59), (3, 60), (3, 61), (3, 62), (3, 63), (3, 64), (3, 65), (3, 66), (0, 0), (0, 0), (0, 0), (0, 0), (0, 0)])) := rfl
theorem sC_58 : gShC[58]? = some (.inl (1, 24)) := rfl
theorem sC_59 : gShC[59]? = some (.inl (0, 24)) := rfl
theorem sC_60 : gShC[60]? = some (.inl (0, 60)) := rfl
theorem sC_61 : gShC[61]? = some (.inl (0, 60)) := rfl
theorem sC_62 : gShC[62]? = some (.inl (0, 24)) := rfl
theorem sC_63 : gShC[63]? = some (.inl (0, 24)) := rfl
theorem sC_64 : gShC[64]? = some (.inl (0, 24)) := rfl
theorem sC_65 : gShC[65]? = some (.inl (0, 24)) := rfl
theorem sC_66 : gShC[66]? = some (.inl (1, 9)) := rfl
theorem sC_67 : gShC[67]? = some (.inr (2, [(3, 68), (3, 69), (3, 70), (3, 71), (3, 72), (3, 73), (3, 74), (3, 75), (3, 76), (0, 0), (0, 0), (0, 0), (0, 0), (0, 0)])) := rfl
theorem sC_68 : gShC[68]? = some (.inl (1, 24)) := rfl
theorem sC_69 : gShC[69]? = some (.inl (0, 24)) := rfl
theorem sC_70 : gShC[70]? = some (.inl (0, 60)) := rfl
theorem sC_71 : gShC[71]? = some (.inl (0, 60)) := rfl
theorem sC_72 : gShC[72]? = some (.inl (0, 24)) := rfl
theorem sC_73 : gShC[73]? = some (.inl (0, 24)) := rfl
theorem sC_74 : gShC[74]? = some (.inl (0, 24)) := rfl
theorem sC_75 : gShC[75]? = some (.inl (0, 24)) := rfl
theorem sC_76 : gShC[76]? = some (.inl (1, 9)) := rfl
theorem sC_77 : gShC[77]? = some (.inr (2, [(3, 78), (3, 79), (3, 80), (3, 81), (3, 82), (3, 83), (3, 84), (3, 85), (3, 86), (0, 0), (0, 0), (0, 0), (0, 0), (0, 0)])) := rfl
theorem sC_78 : gShC[78]? = some (.inl (1, 24)) := rfl
theorem sC_79 : gShC[79]? = some (.inl (0, 24)) := rfl
theorem sC_80 : gShC[80]? = some (.inl (0, 60)) := rfl
theorem sC_81 : gShC[81]? = some (.inl (0, 60)) := rfl
theorem sC_82 : gShC[82]? = some (.inl (0, 24)) := rfl
theorem sC_83 : gShC[83]? = some (.inl (0, 24)) := rfl
theorem sC_84 : gShC[84]? = some (.inl (0, 24)) := rfl
theorem sC_85 : gShC[85]? = some (.inl (0, 24)) := rfl
theorem sC_86 : gShC[86]? = some (.inl (1, 9)) := rfl
theorem sC_87 : gShC[87]? = some (.inr (2, [(3, 88), (3, 89), (3, 90), (3, 91), (3, 92), (3, 93), (3, 94), (3, 95), (3, 96), (0, 0), (0, 0), (0, 0), (0, 0), (0, 0)])) := rfl
theorem sC_88 : gShC[88]? = some (.inl (1, 24)) := rfl
theorem sC_89 : gShC[89]? = some (.inl (0, 24)) := rfl
theorem sC_90 : gShC[90]? = some (.inl (0, 60)) := rfl
theorem sC_91 : gShC[91]? = some (.inl (0, 60)) := rfl
theorem sC_92 : gShC[92]? = some (.inl (0, 24)) := rfl
theorem sC_93 : gShC[93]? = some (.inl (0, 24)) := rfl
theorem sC_94 : gShC[94]? = some (.inl (0, 24)) := rfl
theorem sC_95 : gShC[95]? = some (.inl (0, 24)) := rfl
theorem sC_96 : gShC[96]? = some (.inl (1, 9)) := rfl
theorem sC_97 : gShC[97]? = some (.inr (2, [(3, 98), (3, 99), (3, 100), (3, 101), (3, 102), (3, 103), (3, 104), (3, 105), (3, 106), (0, 0), (0, 0), (0, 0), (0, 0), (0, 0)])) := rfl
theorem sC_98 : gShC[98]? = some (.inl (1, 24)) := rfl
theorem sC_99 : gShC[99]? = some (.inl (0, 24)) := rfl
theorem sC_100 : gShC[100]? = some (.inl (0, 60)) := rfl
theorem sC_101 : gShC[101]? = some (.inl (0, 60)) := rfl
theorem sC_102 : gShC[102]? = some (.inl (0, 24)) := rfl
theorem sC_103 : gShC[103]? = some (.inl (0, 24)) := rfl
theorem sC_104 : gShC[104]? = some (.inl (0, 24)) := rfl
theorem sC_105 : gShC[105]? = some (.inl (0, 24)) := rfl
theorem sC_106 : gShC[106]? = some (.inl (1, 9)) := rfl
theorem sC_107 : gShC[107]? = some (.inr (2, [(3, 108), (3, 109), (3, 110), (3, 111), (3, 112), (3, 113), (3, 114), (3, 115), (3, 116), (0, 0), (0, 0), (0, 0), (0, 0), (0, 0)])) := rfl
theorem sC_108 : gShC[108]? = some (.inl (1, 24)) := rfl
theorem sC_109 : gShC[109]? = some (.inl (0, 24)) := rfl
theorem sC_110 : gShC[110]? = some (.inl (0, 60)) := rfl
theorem sC_111 : gShC[111]? = some (.inl (0, 60)) := rfl
theorem sC_112 : gShC[112]? = some (.inl (0, 24)) := rfl
theorem sC_113 : gShC[113]? = some (.inl (0, 24)) := rfl
theorem sC_114 : gShC[114]? = some (.inl (0, 24)) := rfl
theorem sC_115 : gShC[115]? = some (.inl (0, 24)) := rfl
theorem sC_116 : gShC[116]? = some (.inl (1, 9)) := rfl
theorem sC_117 : gShC[117]? = some (.inr (2, [(3, 118), (3, 119), (3, 120), (3, 121), (3, 122), (3, 123), (3, 124), (3, 125), (3, 126), (0, 0), (0, 0), (0, 0), (0, 0), (0, 0)])) := rfl
theorem sC_118 : gShC[118]? = some (.inl (1, 24)) := rfl
theorem sC_119 : gShC[119]? = some (.inl (0, 24)) := rfl
theorem sC_120 : gShC[120]? = some (.inl (0, 60)) := rfl
theorem sC_121 : gShC[121]? = some (.inl (0, 60)) := rfl
theorem sC_122 : gShC[122]? = some (.inl (0, 24)) := rfl
theorem sC_123 : gShC[123]? = some (.inl (0, 24)) := rfl
theorem sC_124 : gShC[124]? = some (.inl (0, 24)) := rfl
theorem sC_125 : gShC[125]? = some (.inl (0, 24)) := rfl
theorem sC_126 : gShC[126]? = some (.inl (1, 9)) := rfl
theorem sC_127 : gShC[127]? = some (.inr (2, [(3, 128), (3, 129), (3, 130), (3, 131), (3, 132), (3, 133), (3, 134), (3, 135), (3, 136), (0, 0), (0, 0), (0, 0), (0, 0), (0, 0)])) := rfl
theorem sC_128 : gShC[128]? = some (.inl (1, 24)) := rfl
theorem sC_129 : gShC[129]? = some (.inl (0, 24)) := rfl
theorem sC_130 : gShC[130]? = some (.inl (0, 60)) := rfl
theorem sC_131 : gShC[131]? = some (.inl (0, 60)) := rfl
theorem sC_132 : gShC[132]? = some (.inl (0, 24)) := rfl
theorem sC_133 : gShC[133]? = some (.inl (0, 24)) := rfl
theorem sC_134 : gShC[134]? = some (.inl (0, 24)) := rfl
theorem sC_135 : gShC[135]? = some (.inl (0, 24)) := rfl
theorem sC_136 : gShC[136]? = some (.inl (1, 9)) := rfl
theorem sM_0 : gShM[0]? = some (.inr (11, [(0, 0), (3, 1), (3, 2), (3, 3), (3, 4), (3, 5), (0, 0), (0, 0), (3, 6), (3, 7), (0, 0), (0, 0), (0, 0), (0, 0), (0, 0), (3, 8), (0, 0), (3, 9), (3, 10), (3, 11), (3, 12), (0, 0), (0, 0), (0, 0), (0, 0), (0, 0), (0, 0), (0, 0), (0, 0), (0, 0), (0, 0), (0, 0), (3, 13), (0, 0), (3, 14), (3, 15), (3, 16), (3, 17), (0, 0), (3, 18), (0, 0)])) := rfl
theorem sM_1 : gShM[1]? = some (.inl (0, 374)) := rfl
theorem sM_2 : gShM[2]? = some (.inl (0, 374)) := rfl
theorem sM_3 : gShM[3]? = some (.inl (0, 374)) := rfl
theorem sM_4 : gShM[4]? = some (.inl (0, 374)) := rfl
theorem sM_5 : gShM[5]? = some (.inl (0, 2992)) := rfl
theorem sM_6 : gShM[6]? = some (.inl (0, 24)) := rfl
theorem sM_7 : gShM[7]? = some (.inl (0, 24)) := rfl
theorem sM_8 : gShM[8]? = some (.inl (0, 24)) := rfl
theorem sM_9 : gShM[9]? = some (.inl (0, 24)) := rfl
theorem sM_10 : gShM[10]? = some (.inl (0, 24)) := rfl
theorem sM_11 : gShM[11]? = some (.inl (0, 24)) := rfl
theorem sM_12 : gShM[12]? = some (.inl (0, 900)) := rfl
theorem sM_13 : gShM[13]? = some (.inl (0, 90)) := rfl
theorem sM_14 : gShM[14]? = some (.inl (0, 24)) := rfl
theorem sM_15 : gShM[15]? = some (.inl (0, 24)) := rfl
theorem sM_16 : gShM[16]? = some (.inl (0, 24)) := rfl
theorem sM_17 : gShM[17]? = some (.inl (0, 24)) := rfl
theorem sM_18 : gShM[18]? = some (.inl (0, 600)) := rfl
/-- a Net, a Row at a cell -/
def gNet (Sh : List gShp) (t : Nat) : Prop := Sh[t]? = some (.inr (2, [(3, (t + 1)), (3, (t + 2)), (3, (t + 3)), (3, (t + 4)), (3, (t + 5)), (3, (t + 6)), (3, (t + 7)), (3, (t + 8)), (3, (t + 9)), (0, 0), (0, 0), (0, 0), (0, 0), (0, 0)])) ∧ Sh[t + 1]? = some (.inl (1, 24)) ∧ Sh[t + 2]? = some (.inl (0, 24)) ∧ Sh[t + 3]? = some (.inl (0, 60)) ∧ Sh[t + 4]? = some (.inl (0, 60)) ∧ Sh[t + 5]? = some (.inl (0, 24)) ∧ Sh[t + 6]? = some (.inl (0, 24)) ∧ Sh[t + 7]? = some (.inl (0, 24)) ∧ Sh[t + 8]? = some (.inl (0, 24)) ∧ Sh[t + 9]? = some (.inl (1, 9))
def gRow (Sh : List gShp) (t : Nat) : Prop := Sh[t]? = some (.inr (7, [(3, (t + 1)), (0, 0)])) ∧ Sh[t + 1]? = some (.inl (0, 24))
def gNb (t : Nat) : Bool := [1, 11, 21, 57, 67, 77, 87, 97, 107, 117, 127].contains t
theorem nC_1 : gNet gShC 1 := ⟨sC_1, sC_2, sC_3, sC_4, sC_5, sC_6, sC_7, sC_8, sC_9, sC_10⟩
theorem nC_11 : gNet gShC 11 := ⟨sC_11, sC_12, sC_13, sC_14, sC_15, sC_16, sC_17, sC_18, sC_19, sC_20⟩
theorem nC_21 : gNet gShC 21 := ⟨sC_21, sC_22, sC_23, sC_24, sC_25, sC_26, sC_27, sC_28, sC_29, sC_30⟩
theorem nC_57 : gNet gShC 57 := ⟨sC_57, sC_58, sC_59, sC_60, sC_61, sC_62, sC_63, sC_64, sC_65, sC_66⟩
theorem nC_67 : gNet gShC 67 := ⟨sC_67, sC_68, sC_69, sC_70, sC_71, sC_72, sC_73, sC_74, sC_75, sC_76⟩
theorem nC_77 : gNet gShC 77 := ⟨sC_77, sC_78, sC_79, sC_80, sC_81, sC_82, sC_83, sC_84, sC_85, sC_86⟩
theorem nC_87 : gNet gShC 87 := ⟨sC_87, sC_88, sC_89, sC_90, sC_91, sC_92, sC_93, sC_94, sC_95, sC_96⟩
theorem nC_97 : gNet gShC 97 := ⟨sC_97, sC_98, sC_99, sC_100, sC_101, sC_102, sC_103, sC_104, sC_105, sC_106⟩
theorem nC_107 : gNet gShC 107 := ⟨sC_107, sC_108, sC_109, sC_110, sC_111, sC_112, sC_113, sC_114, sC_115, sC_116⟩
theorem nC_117 : gNet gShC 117 := ⟨sC_117, sC_118, sC_119, sC_120, sC_121, sC_122, sC_123, sC_124, sC_125, sC_126⟩
theorem nC_127 : gNet gShC 127 := ⟨sC_127, sC_128, sC_129, sC_130, sC_131, sC_132, sC_133, sC_134, sC_135, sC_136⟩
theorem gNb_ok {t : Nat} (h : gNb t = true) : gNet gShC t := by
  unfold gNb at h
  simp only [List.contains_cons, Bool.or_eq_true, beq_iff_eq, List.contains_nil, Bool.false_eq_true, or_false] at h
  rcases h with rfl | rfl | rfl | rfl | rfl | rfl | rfl | rfl | rfl | rfl | rfl
  · exact nC_1
  · exact nC_11
  · exact nC_21
  · exact nC_57
  · exact nC_67
  · exact nC_77
  · exact nC_87
  · exact nC_97
  · exact nC_107
  · exact nC_117
  · exact nC_127
theorem wC_42 : gRow gShC 42 := ⟨sC_42, sC_43⟩
theorem wC_45 : gRow gShC 45 := ⟨sC_45, sC_46⟩
theorem iX0 : ∀ w ∈ u_ws RX0 TX0 5, w ∈ gBW := fun w h => gBW_of (List.mem_append_right _ ((show ∀ w ∈ u_ws RX0 TX0 5, w ∈ tables_1 by decide +kernel) w h)) ((show ∀ w ∈ u_ws RX0 TX0 5, goodWord w = true by decide +kernel) w h)
theorem jX0 : gFt tyX0 TX0 5 := ⟨tyX0_ok, nmX0⟩
theorem iX1 : ∀ w ∈ u_ws RX1 TX1 2, w ∈ gBW := fun w h => gBW_of (List.mem_append_right _ ((show ∀ w ∈ u_ws RX1 TX1 2, w ∈ tables_1 by decide +kernel) w h)) ((show ∀ w ∈ u_ws RX1 TX1 2, goodWord w = true by decide +kernel) w h)
theorem jX1 : gFt tyX1 TX1 2 := ⟨tyX1_ok, nmX1⟩
theorem iX2 : ∀ w ∈ u_ws RX2 TX2 14, w ∈ gBW := fun w h => gBW_of (List.mem_append_right _ ((show ∀ w ∈ u_ws RX2 TX2 14, w ∈ tables_1 by decide +kernel) w h)) ((show ∀ w ∈ u_ws RX2 TX2 14, goodWord w = true by decide +kernel) w h)
theorem jX2 : gFt tyX2 TX2 14 := ⟨tyX2_ok, nmX2⟩
theorem iX3 : ∀ w ∈ u_ws RX3 TX3 4, w ∈ gBW := fun w h => gBW_of (List.mem_append_right _ ((show ∀ w ∈ u_ws RX3 TX3 4, w ∈ tables_1 by decide +kernel) w h)) ((show ∀ w ∈ u_ws RX3 TX3 4, goodWord w = true by decide +kernel) w h)
theorem jX3 : gFt tyX3 TX3 4 := ⟨tyX3_ok, nmX3⟩
theorem iX4 : ∀ w ∈ u_ws RX4 TX4 2, w ∈ gBW := fun w h => gBW_of (List.mem_append_right _ ((show ∀ w ∈ u_ws RX4 TX4 2, w ∈ tables_1 by decide +kernel) w h)) ((show ∀ w ∈ u_ws RX4 TX4 2, goodWord w = true by decide +kernel) w h)
theorem jX4 : gFt tyX4 TX4 2 := ⟨tyX4_ok, nmX4⟩
theorem iX5 : ∀ w ∈ u_ws RX5 TX5 6, w ∈ gBW := fun w h => gBW_of (List.mem_append_right _ ((show ∀ w ∈ u_ws RX5 TX5 6, w ∈ tables_1 by decide +kernel) w h)) ((show ∀ w ∈ u_ws RX5 TX5 6, goodWord w = true by decide +kernel) w h)
theorem jX5 : gFt tyX5 TX5 6 := ⟨tyX5_ok, nmX5⟩
theorem iX6 : ∀ w ∈ u_ws RX6 TX6 7, w ∈ gBW := fun w h => gBW_of (List.mem_append_right _ ((show ∀ w ∈ u_ws RX6 TX6 7, w ∈ tables_1 by decide +kernel) w h)) ((show ∀ w ∈ u_ws RX6 TX6 7, goodWord w = true by decide +kernel) w h)
theorem jX6 : gFt tyX6 TX6 7 := ⟨tyX6_ok, nmX6⟩
theorem iX7 : ∀ w ∈ u_ws RX7 TX7 2, w ∈ gBW := fun w h => gBW_of (List.mem_append_right _ ((show ∀ w ∈ u_ws RX7 TX7 2, w ∈ tables_1 by decide +kernel) w h)) ((show ∀ w ∈ u_ws RX7 TX7 2, goodWord w = true by decide +kernel) w h)
theorem jX7 : gFt tyX7 TX7 2 := ⟨tyX7_ok, nmX7⟩
theorem iX8 : ∀ w ∈ u_ws RX8 TX8 4, w ∈ gBW := fun w h => gBW_of (List.mem_append_right _ ((show ∀ w ∈ u_ws RX8 TX8 4, w ∈ tables_1 by decide +kernel) w h)) ((show ∀ w ∈ u_ws RX8 TX8 4, goodWord w = true by decide +kernel) w h)
theorem jX8 : gFt tyX8 TX8 4 := ⟨tyX8_ok, nmX8⟩
theorem iX9 : ∀ w ∈ u_ws RX9 TX9 1, w ∈ gBW := fun w h => gBW_of (List.mem_append_right _ ((show ∀ w ∈ u_ws RX9 TX9 1, w ∈ tables_1 by decide +kernel) w h)) ((show ∀ w ∈ u_ws RX9 TX9 1, goodWord w = true by decide +kernel) w h)
theorem jX9 : gFt tyX9 TX9 1 := ⟨tyX9_ok, nmX9⟩
theorem iX10 : ∀ w ∈ u_ws RX10 TX10 14, w ∈ gBW := fun w h => gBW_of (List.mem_append_right _ ((show ∀ w ∈ u_ws RX10 TX10 14, w ∈ tables_1 by decide +kernel) w h)) ((show ∀ w ∈ u_ws RX10 TX10 14, goodWord w = true by decide +kernel) w h)
theorem jX10 : gFt tyX10 TX10 14 := ⟨tyX10_ok, nmX10⟩
theorem iX11 : ∀ w ∈ u_ws RX11 TX11 41, w ∈ gBW := fun w h => gBW_of (List.mem_append_right _ ((show ∀ w ∈ u_ws RX11 TX11 41, w ∈ tables_1 by decide +kernel) w h)) ((show ∀ w ∈ u_ws RX11 TX11 41, goodWord w = true by decide +kernel) w h)
theorem jX11 : gFt tyX11 TX11 41 := ⟨tyX11_ok, nmX11⟩
theorem FX2_9 : gFl RX2 9 2 0 RX2 TX2 14 := ⟨rfl, by decide, iX2, gBW_t 41 (by decide +kernel) rfl, rfl⟩
theorem FX4_45 : gFl RX4 45 2 0 RX2 TX2 14 := ⟨rfl, by decide, iX2, gBW_t 42 (by decide +kernel) rfl, rfl⟩
theorem FX10_204 : gFl RX10 204 2 0 RX2 TX2 14 := ⟨rfl, by decide, iX2, gBW_t 43 (by decide +kernel) rfl, rfl⟩
theorem FX2_15 : gFl RX2 15 2 1 RX2 TX2 14 := ⟨rfl, by decide, iX2, gBW_t 44 (by decide +kernel) rfl, rfl⟩
theorem FX0_42 : gFl RX0 42 2 1 RX2 TX2 14 := ⟨rfl, by decide, iX2, gBW_t 45 (by decide +kernel) rfl, rfl⟩
theorem FX3_104 : gFl RX3 104 2 1 RX2 TX2 14 := ⟨rfl, by decide, iX2, gBW_t 46 (by decide +kernel) rfl, rfl⟩
theorem FX10_173 : gFl RX10 173 2 1 RX2 TX2 14 := ⟨rfl, by decide, iX2, gBW_t 47 (by decide +kernel) rfl, rfl⟩
theorem FX2_19 : gFl RX2 19 2 2 RX2 TX2 14 := ⟨rfl, by decide, iX2, gBW_t 48 (by decide +kernel) rfl, rfl⟩
theorem FX6_68 : gFl RX6 68 2 2 RX2 TX2 14 := ⟨rfl, by decide, iX2, gBW_t 49 (by decide +kernel) rfl, rfl⟩
theorem FX0_65 : gFl RX0 65 2 2 RX2 TX2 14 := ⟨rfl, by decide, iX2, gBW_t 50 (by decide +kernel) rfl, rfl⟩
theorem FX8_70 : gFl RX8 70 2 2 RX2 TX2 14 := ⟨rfl, by decide, iX2, gBW_t 51 (by decide +kernel) rfl, rfl⟩
theorem FX10_243 : gFl RX10 243 2 2 RX2 TX2 14 := ⟨rfl, by decide, iX2, gBW_t 52 (by decide +kernel) rfl, rfl⟩
theorem FX2_22 : gFl RX2 22 2 3 RX2 TX2 14 := ⟨rfl, by decide, iX2, gBW_t 53 (by decide +kernel) rfl, rfl⟩
theorem FX0_62 : gFl RX0 62 2 3 RX2 TX2 14 := ⟨rfl, by decide, iX2, gBW_t 54 (by decide +kernel) rfl, rfl⟩
theorem FX6_71 : gFl RX6 71 2 3 RX2 TX2 14 := ⟨rfl, by decide, iX2, gBW_t 55 (by decide +kernel) rfl, rfl⟩
theorem FX8_73 : gFl RX8 73 2 3 RX2 TX2 14 := ⟨rfl, by decide, iX2, gBW_t 56 (by decide +kernel) rfl, rfl⟩
theorem FX10_246 : gFl RX10 246 2 3 RX2 TX2 14 := ⟨rfl, by decide, iX2, gBW_t 57 (by decide +kernel) rfl, rfl⟩
theorem FX2_25 : gFl RX2 25 2 4 RX2 TX2 14 := ⟨rfl, by decide, iX2, gBW_t 58 (by decide +kernel) rfl, rfl⟩
theorem FX9_27 : gFl RX9 27 2 4 RX2 TX2 14 := ⟨rfl, by decide, iX2, gBW_t 59 (by decide +kernel) rfl, rfl⟩
theorem FX10_187 : gFl RX10 187 2 4 RX2 TX2 14 := ⟨rfl, by decide, iX2, gBW_t 60 (by decide +kernel) rfl, rfl⟩
theorem FX2_28 : gFl RX2 28 2 5 RX2 TX2 14 := ⟨rfl, by decide, iX2, gBW_t 61 (by decide +kernel) rfl, rfl⟩
theorem FX6_43 : gFl RX6 43 2 5 RX2 TX2 14 := ⟨rfl, by decide, iX2, gBW_t 62 (by decide +kernel) rfl, rfl⟩
theorem FX8_104 : gFl RX8 104 2 5 RX2 TX2 14 := ⟨rfl, by decide, iX2, gBW_t 63 (by decide +kernel) rfl, rfl⟩
theorem FX10_198 : gFl RX10 198 2 5 RX2 TX2 14 := ⟨rfl, by decide, iX2, gBW_t 64 (by decide +kernel) rfl, rfl⟩
theorem FX2_31 : gFl RX2 31 2 6 RX2 TX2 14 := ⟨rfl, by decide, iX2, gBW_t 65 (by decide +kernel) rfl, rfl⟩
theorem FX6_50 : gFl RX6 50 2 6 RX2 TX2 14 := ⟨rfl, by decide, iX2, gBW_t 66 (by decide +kernel) rfl, rfl⟩
theorem FX8_51 : gFl RX8 51 2 6 RX2 TX2 14 := ⟨rfl, by decide, iX2, gBW_t 67 (by decide +kernel) rfl, rfl⟩
theorem FX7_23 : gFl RX7 23 2 6 RX2 TX2 14 := ⟨rfl, by decide, iX2, gBW_t 68 (by decide +kernel) rfl, rfl⟩
theorem FX10_177 : gFl RX10 177 2 6 RX2 TX2 14 := ⟨rfl, by decide, iX2, gBW_t 69 (by decide +kernel) rfl, rfl⟩
theorem FX2_34 : gFl RX2 34 2 7 RX2 TX2 14 := ⟨rfl, by decide, iX2, gBW_t 70 (by decide +kernel) rfl, rfl⟩
theorem FX6_37 : gFl RX6 37 2 7 RX2 TX2 14 := ⟨rfl, by decide, iX2, gBW_t 71 (by decide +kernel) rfl, rfl⟩
theorem FX0_39 : gFl RX0 39 2 7 RX2 TX2 14 := ⟨rfl, by decide, iX2, gBW_t 72 (by decide +kernel) rfl, rfl⟩
theorem FX8_67 : gFl RX8 67 2 7 RX2 TX2 14 := ⟨rfl, by decide, iX2, gBW_t 73 (by decide +kernel) rfl, rfl⟩
theorem FX10_180 : gFl RX10 180 2 7 RX2 TX2 14 := ⟨rfl, by decide, iX2, gBW_t 74 (by decide +kernel) rfl, rfl⟩
theorem FX2_37 : gFl RX2 37 2 8 RX2 TX2 14 := ⟨rfl, by decide, iX2, gBW_t 75 (by decide +kernel) rfl, rfl⟩
theorem FX8_100 : gFl RX8 100 2 8 RX2 TX2 14 := ⟨rfl, by decide, iX2, gBW_t 76 (by decide +kernel) rfl, rfl⟩
theorem FX6_129 : gFl RX6 129 2 8 RX2 TX2 14 := ⟨rfl, by decide, iX2, gBW_t 77 (by decide +kernel) rfl, rfl⟩
theorem FX10_339 : gFl RX10 339 2 8 RX2 TX2 14 := ⟨rfl, by decide, iX2, gBW_t 78 (by decide +kernel) rfl, rfl⟩
theorem FX2_40 : gFl RX2 40 2 9 RX2 TX2 14 := ⟨rfl, by decide, iX2, gBW_t 79 (by decide +kernel) rfl, rfl⟩
theorem FX9_21 : gFl RX9 21 2 9 RX2 TX2 14 := ⟨rfl, by decide, iX2, gBW_t 80 (by decide +kernel) rfl, rfl⟩
theorem FX0_34 : gFl RX0 34 2 9 RX2 TX2 14 := ⟨rfl, by decide, iX2, gBW_t 81 (by decide +kernel) rfl, rfl⟩
theorem FX1_58 : gFl RX1 58 2 9 RX2 TX2 14 := ⟨rfl, by decide, iX2, gBW_t 82 (by decide +kernel) rfl, rfl⟩
theorem FX4_33 : gFl RX4 33 2 9 RX2 TX2 14 := ⟨rfl, by decide, iX2, gBW_t 83 (by decide +kernel) rfl, rfl⟩
theorem FX10_125 : gFl RX10 125 2 9 RX2 TX2 14 := ⟨rfl, by decide, iX2, gBW_t 84 (by decide +kernel) rfl, rfl⟩
theorem FX8_76 : gFl RX8 76 2 9 RX2 TX2 14 := ⟨rfl, by decide, iX2, gBW_t 85 (by decide +kernel) rfl, rfl⟩
theorem FX2_44 : gFl RX2 44 2 10 RX2 TX2 14 := ⟨rfl, by decide, iX2, gBW_t 86 (by decide +kernel) rfl, rfl⟩
theorem FX6_61 : gFl RX6 61 2 10 RX2 TX2 14 := ⟨rfl, by decide, iX2, gBW_t 87 (by decide +kernel) rfl, rfl⟩
theorem FX0_59 : gFl RX0 59 2 10 RX2 TX2 14 := ⟨rfl, by decide, iX2, gBW_t 88 (by decide +kernel) rfl, rfl⟩
theorem FX8_64 : gFl RX8 64 2 10 RX2 TX2 14 := ⟨rfl, by decide, iX2, gBW_t 89 (by decide +kernel) rfl, rfl⟩
theorem FX1_100 : gFl RX1 100 2 10 RX2 TX2 14 := ⟨rfl, by decide, iX2, gBW_t 90 (by decide +kernel) rfl, rfl⟩
theorem FX10_146 : gFl RX10 146 2 10 RX2 TX2 14 := ⟨rfl, by decide, iX2, gBW_t 91 (by decide +kernel) rfl, rfl⟩
theorem FX2_47 : gFl RX2 47 2 11 RX2 TX2 14 := ⟨rfl, by decide, iX2, gBW_t 92 (by decide +kernel) rfl, rfl⟩
theorem FX8_28 : gFl RX8 28 2 11 RX2 TX2 14 := ⟨rfl, by decide, iX2, gBW_t 93 (by decide +kernel) rfl, rfl⟩
theorem FX0_43 : gFl RX0 43 2 11 RX2 TX2 14 := ⟨rfl, by decide, iX2, gBW_t 94 (by decide +kernel) rfl, rfl⟩
theorem FX6_92 : gFl RX6 92 2 11 RX2 TX2 14 := ⟨rfl, by decide, iX2, gBW_t 95 (by decide +kernel) rfl, rfl⟩
theorem FX10_149 : gFl RX10 149 2 11 RX2 TX2 14 := ⟨rfl, by decide, iX2, gBW_t 96 (by decide +kernel) rfl, rfl⟩
theorem FX3_137 : gFl RX3 137 2 11 RX2 TX2 14 := ⟨rfl, by decide, iX2, gBW_t 97 (by decide +kernel) rfl, rfl⟩
theorem FX2_50 : gFl RX2 50 2 12 RX2 TX2 14 := ⟨rfl, by decide, iX2, gBW_t 98 (by decide +kernel) rfl, rfl⟩
theorem FX1_116 : gFl RX1 116 2 12 RX2 TX2 14 := ⟨rfl, by decide, iX2, gBW_t 99 (by decide +kernel) rfl, rfl⟩
theorem FX10_152 : gFl RX10 152 2 12 RX2 TX2 14 := ⟨rfl, by decide, iX2, gBW_t 100 (by decide +kernel) rfl, rfl⟩
theorem FX3_112 : gFl RX3 112 2 12 RX2 TX2 14 := ⟨rfl, by decide, iX2, gBW_t 101 (by decide +kernel) rfl, rfl⟩
theorem FX6_119 : gFl RX6 119 2 12 RX2 TX2 14 := ⟨rfl, by decide, iX2, gBW_t 102 (by decide +kernel) rfl, rfl⟩
theorem FX2_53 : gFl RX2 53 2 13 RX2 TX2 14 := ⟨rfl, by decide, iX2, gBW_t 103 (by decide +kernel) rfl, rfl⟩
theorem FX1_118 : gFl RX1 118 2 13 RX2 TX2 14 := ⟨rfl, by decide, iX2, gBW_t 104 (by decide +kernel) rfl, rfl⟩
theorem FX10_155 : gFl RX10 155 2 13 RX2 TX2 14 := ⟨rfl, by decide, iX2, gBW_t 105 (by decide +kernel) rfl, rfl⟩
theorem FX3_114 : gFl RX3 114 2 13 RX2 TX2 14 := ⟨rfl, by decide, iX2, gBW_t 106 (by decide +kernel) rfl, rfl⟩
theorem FX5_9 : gFl RX5 9 5 0 RX5 TX5 6 := ⟨rfl, by decide, iX5, gBW_t 145 (by decide +kernel) rfl, rfl⟩
theorem FX5_15 : gFl RX5 15 5 1 RX5 TX5 6 := ⟨rfl, by decide, iX5, gBW_t 146 (by decide +kernel) rfl, rfl⟩
theorem FX10_96 : gFl RX10 96 5 1 RX5 TX5 6 := ⟨rfl, by decide, iX5, gBW_t 147 (by decide +kernel) rfl, rfl⟩
theorem FX5_19 : gFl RX5 19 5 2 RX5 TX5 6 := ⟨rfl, by decide, iX5, gBW_t 148 (by decide +kernel) rfl, rfl⟩
theorem FX5_22 : gFl RX5 22 5 3 RX5 TX5 6 := ⟨rfl, by decide, iX5, gBW_t 149 (by decide +kernel) rfl, rfl⟩
theorem FX3_51 : gFl RX3 51 5 3 RX5 TX5 6 := ⟨rfl, by decide, iX5, gBW_t 150 (by decide +kernel) rfl, rfl⟩
theorem FX1_62 : gFl RX1 62 5 3 RX5 TX5 6 := ⟨rfl, by decide, iX5, gBW_t 151 (by decide +kernel) rfl, rfl⟩
theorem FX5_25 : gFl RX5 25 5 4 RX5 TX5 6 := ⟨rfl, by decide, iX5, gBW_t 152 (by decide +kernel) rfl, rfl⟩
theorem FX10_140 : gFl RX10 140 5 4 RX5 TX5 6 := ⟨rfl, by decide, iX5, gBW_t 153 (by decide +kernel) rfl, rfl⟩
theorem FX5_28 : gFl RX5 28 5 5 RX5 TX5 6 := ⟨rfl, by decide, iX5, gBW_t 154 (by decide +kernel) rfl, rfl⟩
theorem FX10_143 : gFl RX10 143 5 5 RX5 TX5 6 := ⟨rfl, by decide, iX5, gBW_t 155 (by decide +kernel) rfl, rfl⟩
theorem FX4_9 : gFl RX4 9 4 0 RX4 TX4 2 := ⟨rfl, by decide, iX4, gBW_t 176 (by decide +kernel) rfl, rfl⟩
theorem FX10_381 : gFl RX10 381 4 0 RX4 TX4 2 := ⟨rfl, by decide, iX4, gBW_t 177 (by decide +kernel) rfl, rfl⟩
theorem FX4_15 : gFl RX4 15 4 1 RX4 TX4 2 := ⟨rfl, by decide, iX4, gBW_t 178 (by decide +kernel) rfl, rfl⟩
theorem FX10_370 : gFl RX10 370 4 1 RX4 TX4 2 := ⟨rfl, by decide, iX4, gBW_t 179 (by decide +kernel) rfl, rfl⟩
theorem FX1_9 : gFl RX1 9 1 0 RX1 TX1 2 := ⟨rfl, by decide, iX1, gBW_t 191 (by decide +kernel) rfl, rfl⟩
theorem FX1_15 : gFl RX1 15 1 1 RX1 TX1 2 := ⟨rfl, by decide, iX1, gBW_t 192 (by decide +kernel) rfl, rfl⟩
theorem FX3_9 : gFl RX3 9 3 0 RX3 TX3 4 := ⟨rfl, by decide, iX3, gBW_t 204 (by decide +kernel) rfl, rfl⟩
theorem FX3_15 : gFl RX3 15 3 1 RX3 TX3 4 := ⟨rfl, by decide, iX3, gBW_t 205 (by decide +kernel) rfl, rfl⟩
theorem FX3_18 : gFl RX3 18 3 2 RX3 TX3 4 := ⟨rfl, by decide, iX3, gBW_t 206 (by decide +kernel) rfl, rfl⟩
theorem FX3_21 : gFl RX3 21 3 3 RX3 TX3 4 := ⟨rfl, by decide, iX3, gBW_t 207 (by decide +kernel) rfl, rfl⟩
theorem FX7_9 : gFl RX7 9 7 0 RX7 TX7 2 := ⟨rfl, by decide, iX7, gBW_t 229 (by decide +kernel) rfl, rfl⟩
theorem FX8_87 : gFl RX8 87 7 0 RX7 TX7 2 := ⟨rfl, by decide, iX7, gBW_t 230 (by decide +kernel) rfl, rfl⟩
theorem FX6_110 : gFl RX6 110 7 0 RX7 TX7 2 := ⟨rfl, by decide, iX7, gBW_t 231 (by decide +kernel) rfl, rfl⟩
theorem FX2_103 : gFl RX2 103 7 0 RX7 TX7 2 := ⟨rfl, by decide, iX7, gBW_t 232 (by decide +kernel) rfl, rfl⟩
theorem FX10_314 : gFl RX10 314 7 0 RX7 TX7 2 := ⟨rfl, by decide, iX7, gBW_t 233 (by decide +kernel) rfl, rfl⟩
theorem FX7_15 : gFl RX7 15 7 1 RX7 TX7 2 := ⟨rfl, by decide, iX7, gBW_t 234 (by decide +kernel) rfl, rfl⟩
theorem FX8_38 : gFl RX8 38 7 1 RX7 TX7 2 := ⟨rfl, by decide, iX7, gBW_t 235 (by decide +kernel) rfl, rfl⟩
theorem FX6_74 : gFl RX6 74 7 1 RX7 TX7 2 := ⟨rfl, by decide, iX7, gBW_t 236 (by decide +kernel) rfl, rfl⟩
theorem FX2_98 : gFl RX2 98 7 1 RX7 TX7 2 := ⟨rfl, by decide, iX7, gBW_t 237 (by decide +kernel) rfl, rfl⟩
theorem FX6_12 : gFl RX6 12 6 0 RX6 TX6 7 := ⟨rfl, by decide, iX6, gBW_t 243 (by decide +kernel) rfl, rfl⟩
theorem FX6_18 : gFl RX6 18 6 1 RX6 TX6 7 := ⟨rfl, by decide, iX6, gBW_t 244 (by decide +kernel) rfl, rfl⟩
theorem FX6_22 : gFl RX6 22 6 2 RX6 TX6 7 := ⟨rfl, by decide, iX6, gBW_t 245 (by decide +kernel) rfl, rfl⟩
theorem FX6_25 : gFl RX6 25 6 3 RX6 TX6 7 := ⟨rfl, by decide, iX6, gBW_t 246 (by decide +kernel) rfl, rfl⟩
theorem FX10_285 : gFl RX10 285 6 3 RX6 TX6 7 := ⟨rfl, by decide, iX6, gBW_t 247 (by decide +kernel) rfl, rfl⟩
theorem FX6_28 : gFl RX6 28 6 4 RX6 TX6 7 := ⟨rfl, by decide, iX6, gBW_t 248 (by decide +kernel) rfl, rfl⟩
theorem FX10_288 : gFl RX10 288 6 4 RX6 TX6 7 := ⟨rfl, by decide, iX6, gBW_t 249 (by decide +kernel) rfl, rfl⟩
theorem FX6_31 : gFl RX6 31 6 5 RX6 TX6 7 := ⟨rfl, by decide, iX6, gBW_t 250 (by decide +kernel) rfl, rfl⟩
theorem FX6_34 : gFl RX6 34 6 6 RX6 TX6 7 := ⟨rfl, by decide, iX6, gBW_t 251 (by decide +kernel) rfl, rfl⟩
theorem FX10_291 : gFl RX10 291 6 6 RX6 TX6 7 := ⟨rfl, by decide, iX6, gBW_t 252 (by decide +kernel) rfl, rfl⟩
theorem FX8_12 : gFl RX8 12 8 0 RX8 TX8 4 := ⟨rfl, by decide, iX8, gBW_t 276 (by decide +kernel) rfl, rfl⟩
theorem FX10_310 : gFl RX10 310 8 0 RX8 TX8 4 := ⟨rfl, by decide, iX8, gBW_t 277 (by decide +kernel) rfl, rfl⟩
theorem FX8_18 : gFl RX8 18 8 1 RX8 TX8 4 := ⟨rfl, by decide, iX8, gBW_t 278 (by decide +kernel) rfl, rfl⟩
theorem FX8_22 : gFl RX8 22 8 2 RX8 TX8 4 := ⟨rfl, by decide, iX8, gBW_t 279 (by decide +kernel) rfl, rfl⟩
theorem FX8_25 : gFl RX8 25 8 3 RX8 TX8 4 := ⟨rfl, by decide, iX8, gBW_t 280 (by decide +kernel) rfl, rfl⟩
theorem FX0_9 : gFl RX0 9 0 0 RX0 TX0 5 := ⟨rfl, by decide, iX0, gBW_t 296 (by decide +kernel) rfl, rfl⟩
theorem FX10_230 : gFl RX10 230 0 0 RX0 TX0 5 := ⟨rfl, by decide, iX0, gBW_t 297 (by decide +kernel) rfl, rfl⟩
theorem FX0_15 : gFl RX0 15 0 1 RX0 TX0 5 := ⟨rfl, by decide, iX0, gBW_t 298 (by decide +kernel) rfl, rfl⟩
theorem FX10_231 : gFl RX10 231 0 1 RX0 TX0 5 := ⟨rfl, by decide, iX0, gBW_t 299 (by decide +kernel) rfl, rfl⟩
theorem FX0_18 : gFl RX0 18 0 2 RX0 TX0 5 := ⟨rfl, by decide, iX0, gBW_t 300 (by decide +kernel) rfl, rfl⟩
theorem FX10_234 : gFl RX10 234 0 2 RX0 TX0 5 := ⟨rfl, by decide, iX0, gBW_t 301 (by decide +kernel) rfl, rfl⟩
theorem FX0_21 : gFl RX0 21 0 3 RX0 TX0 5 := ⟨rfl, by decide, iX0, gBW_t 302 (by decide +kernel) rfl, rfl⟩
theorem FX0_24 : gFl RX0 24 0 4 RX0 TX0 5 := ⟨rfl, by decide, iX0, gBW_t 303 (by decide +kernel) rfl, rfl⟩
theorem FX10_322 : gFl RX10 322 0 4 RX0 TX0 5 := ⟨rfl, by decide, iX0, gBW_t 304 (by decide +kernel) rfl, rfl⟩
theorem FX9_9 : gFl RX9 9 9 0 RX9 TX9 1 := ⟨rfl, by decide, iX9, gBW_t 322 (by decide +kernel) rfl, rfl⟩
theorem FX10_266 : gFl RX10 266 9 0 RX9 TX9 1 := ⟨rfl, by decide, iX9, gBW_t 323 (by decide +kernel) rfl, rfl⟩
theorem FX10_12 : gFl RX10 12 10 0 RX10 TX10 14 := ⟨rfl, by decide, iX10, gBW_t 332 (by decide +kernel) rfl, rfl⟩
theorem FX10_16 : gFl RX10 16 10 1 RX10 TX10 14 := ⟨rfl, by decide, iX10, gBW_t 333 (by decide +kernel) rfl, rfl⟩
theorem FX10_19 : gFl RX10 19 10 2 RX10 TX10 14 := ⟨rfl, by decide, iX10, gBW_t 334 (by decide +kernel) rfl, rfl⟩
theorem FX10_22 : gFl RX10 22 10 3 RX10 TX10 14 := ⟨rfl, by decide, iX10, gBW_t 335 (by decide +kernel) rfl, rfl⟩
theorem FX10_26 : gFl RX10 26 10 4 RX10 TX10 14 := ⟨rfl, by decide, iX10, gBW_t 336 (by decide +kernel) rfl, rfl⟩
theorem FX10_30 : gFl RX10 30 10 5 RX10 TX10 14 := ⟨rfl, by decide, iX10, gBW_t 337 (by decide +kernel) rfl, rfl⟩
theorem FX10_37 : gFl RX10 37 10 6 RX10 TX10 14 := ⟨rfl, by decide, iX10, gBW_t 338 (by decide +kernel) rfl, rfl⟩
theorem FX10_44 : gFl RX10 44 10 7 RX10 TX10 14 := ⟨rfl, by decide, iX10, gBW_t 339 (by decide +kernel) rfl, rfl⟩
theorem FX10_51 : gFl RX10 51 10 8 RX10 TX10 14 := ⟨rfl, by decide, iX10, gBW_t 340 (by decide +kernel) rfl, rfl⟩
theorem FX10_58 : gFl RX10 58 10 9 RX10 TX10 14 := ⟨rfl, by decide, iX10, gBW_t 341 (by decide +kernel) rfl, rfl⟩
theorem FX10_65 : gFl RX10 65 10 10 RX10 TX10 14 := ⟨rfl, by decide, iX10, gBW_t 342 (by decide +kernel) rfl, rfl⟩
theorem FX10_72 : gFl RX10 72 10 11 RX10 TX10 14 := ⟨rfl, by decide, iX10, gBW_t 343 (by decide +kernel) rfl, rfl⟩
theorem FX10_79 : gFl RX10 79 10 12 RX10 TX10 14 := ⟨rfl, by decide, iX10, gBW_t 344 (by decide +kernel) rfl, rfl⟩
theorem FX10_86 : gFl RX10 86 10 13 RX10 TX10 14 := ⟨rfl, by decide, iX10, gBW_t 345 (by decide +kernel) rfl, rfl⟩
theorem FX11_72 : gFl RX11 72 11 0 RX11 TX11 41 := ⟨rfl, by decide, iX11, gBW_t 1260 (by decide +kernel) rfl, rfl⟩
theorem FX11_9 : gFl RX11 9 11 1 RX11 TX11 41 := ⟨rfl, by decide, iX11, gBW_t 1261 (by decide +kernel) rfl, rfl⟩
theorem FX11_13 : gFl RX11 13 11 2 RX11 TX11 41 := ⟨rfl, by decide, iX11, gBW_t 1262 (by decide +kernel) rfl, rfl⟩
theorem FX11_16 : gFl RX11 16 11 3 RX11 TX11 41 := ⟨rfl, by decide, iX11, gBW_t 1263 (by decide +kernel) rfl, rfl⟩
theorem FX11_19 : gFl RX11 19 11 4 RX11 TX11 41 := ⟨rfl, by decide, iX11, gBW_t 1264 (by decide +kernel) rfl, rfl⟩
theorem FX11_22 : gFl RX11 22 11 5 RX11 TX11 41 := ⟨rfl, by decide, iX11, gBW_t 1265 (by decide +kernel) rfl, rfl⟩
theorem FX11_75 : gFl RX11 75 11 6 RX11 TX11 41 := ⟨rfl, by decide, iX11, gBW_t 1266 (by decide +kernel) rfl, rfl⟩
theorem FX11_463 : gFl RX11 463 11 7 RX11 TX11 41 := ⟨rfl, by decide, iX11, gBW_t 1267 (by decide +kernel) rfl, rfl⟩
theorem FX11_25 : gFl RX11 25 11 8 RX11 TX11 41 := ⟨rfl, by decide, iX11, gBW_t 1268 (by decide +kernel) rfl, rfl⟩
theorem FX11_28 : gFl RX11 28 11 9 RX11 TX11 41 := ⟨rfl, by decide, iX11, gBW_t 1269 (by decide +kernel) rfl, rfl⟩
theorem FX11_108 : gFl RX11 108 11 10 RX11 TX11 41 := ⟨rfl, by decide, iX11, gBW_t 1270 (by decide +kernel) rfl, rfl⟩
theorem FX11_111 : gFl RX11 111 11 11 RX11 TX11 41 := ⟨rfl, by decide, iX11, gBW_t 1271 (by decide +kernel) rfl, rfl⟩
theorem FX11_114 : gFl RX11 114 11 12 RX11 TX11 41 := ⟨rfl, by decide, iX11, gBW_t 1272 (by decide +kernel) rfl, rfl⟩
theorem FX11_117 : gFl RX11 117 11 13 RX11 TX11 41 := ⟨rfl, by decide, iX11, gBW_t 1273 (by decide +kernel) rfl, rfl⟩
theorem FX11_120 : gFl RX11 120 11 14 RX11 TX11 41 := ⟨rfl, by decide, iX11, gBW_t 1274 (by decide +kernel) rfl, rfl⟩
theorem FX11_31 : gFl RX11 31 11 15 RX11 TX11 41 := ⟨rfl, by decide, iX11, gBW_t 1275 (by decide +kernel) rfl, rfl⟩
theorem FX11_133 : gFl RX11 133 11 16 RX11 TX11 41 := ⟨rfl, by decide, iX11, gBW_t 1276 (by decide +kernel) rfl, rfl⟩
theorem FX11_34 : gFl RX11 34 11 17 RX11 TX11 41 := ⟨rfl, by decide, iX11, gBW_t 1277 (by decide +kernel) rfl, rfl⟩
theorem FX11_37 : gFl RX11 37 11 18 RX11 TX11 41 := ⟨rfl, by decide, iX11, gBW_t 1278 (by decide +kernel) rfl, rfl⟩
theorem FX11_40 : gFl RX11 40 11 19 RX11 TX11 41 := ⟨rfl, by decide, iX11, gBW_t 1279 (by decide +kernel) rfl, rfl⟩
theorem FX11_43 : gFl RX11 43 11 20 RX11 TX11 41 := ⟨rfl, by decide, iX11, gBW_t 1280 (by decide +kernel) rfl, rfl⟩
theorem FX11_209 : gFl RX11 209 11 21 RX11 TX11 41 := ⟨rfl, by decide, iX11, gBW_t 1281 (by decide +kernel) rfl, rfl⟩
theorem FX11_222 : gFl RX11 222 11 22 RX11 TX11 41 := ⟨rfl, by decide, iX11, gBW_t 1282 (by decide +kernel) rfl, rfl⟩
theorem FX11_225 : gFl RX11 225 11 23 RX11 TX11 41 := ⟨rfl, by decide, iX11, gBW_t 1283 (by decide +kernel) rfl, rfl⟩
theorem FX11_228 : gFl RX11 228 11 24 RX11 TX11 41 := ⟨rfl, by decide, iX11, gBW_t 1284 (by decide +kernel) rfl, rfl⟩
theorem FX11_231 : gFl RX11 231 11 25 RX11 TX11 41 := ⟨rfl, by decide, iX11, gBW_t 1285 (by decide +kernel) rfl, rfl⟩
theorem FX11_240 : gFl RX11 240 11 26 RX11 TX11 41 := ⟨rfl, by decide, iX11, gBW_t 1286 (by decide +kernel) rfl, rfl⟩
theorem FX11_243 : gFl RX11 243 11 27 RX11 TX11 41 := ⟨rfl, by decide, iX11, gBW_t 1287 (by decide +kernel) rfl, rfl⟩
theorem FX11_273 : gFl RX11 273 11 28 RX11 TX11 41 := ⟨rfl, by decide, iX11, gBW_t 1288 (by decide +kernel) rfl, rfl⟩
theorem FX11_46 : gFl RX11 46 11 29 RX11 TX11 41 := ⟨rfl, by decide, iX11, gBW_t 1289 (by decide +kernel) rfl, rfl⟩
theorem FX11_257 : gFl RX11 257 11 30 RX11 TX11 41 := ⟨rfl, by decide, iX11, gBW_t 1290 (by decide +kernel) rfl, rfl⟩
theorem FX11_285 : gFl RX11 285 11 31 RX11 TX11 41 := ⟨rfl, by decide, iX11, gBW_t 1291 (by decide +kernel) rfl, rfl⟩
theorem FX11_50 : gFl RX11 50 11 32 RX11 TX11 41 := ⟨rfl, by decide, iX11, gBW_t 1292 (by decide +kernel) rfl, rfl⟩
theorem FX11_338 : gFl RX11 338 11 33 RX11 TX11 41 := ⟨rfl, by decide, iX11, gBW_t 1293 (by decide +kernel) rfl, rfl⟩
theorem FX11_53 : gFl RX11 53 11 34 RX11 TX11 41 := ⟨rfl, by decide, iX11, gBW_t 1294 (by decide +kernel) rfl, rfl⟩
theorem FX11_56 : gFl RX11 56 11 35 RX11 TX11 41 := ⟨rfl, by decide, iX11, gBW_t 1295 (by decide +kernel) rfl, rfl⟩
theorem FX11_59 : gFl RX11 59 11 36 RX11 TX11 41 := ⟨rfl, by decide, iX11, gBW_t 1296 (by decide +kernel) rfl, rfl⟩
theorem FX11_62 : gFl RX11 62 11 37 RX11 TX11 41 := ⟨rfl, by decide, iX11, gBW_t 1297 (by decide +kernel) rfl, rfl⟩
theorem FX11_403 : gFl RX11 403 11 38 RX11 TX11 41 := ⟨rfl, by decide, iX11, gBW_t 1298 (by decide +kernel) rfl, rfl⟩
theorem FX11_65 : gFl RX11 65 11 39 RX11 TX11 41 := ⟨rfl, by decide, iX11, gBW_t 1299 (by decide +kernel) rfl, rfl⟩
theorem FX11_451 : gFl RX11 451 11 40 RX11 TX11 41 := ⟨rfl, by decide, iX11, gBW_t 1300 (by decide +kernel) rfl, rfl⟩
theorem LX10_92 : gLv RX10 92 yX2_addTask cX2_addTask 4 none 2 := ⟨gBW_t 331 (by decide +kernel) rfl, gBW_t 328 (by decide +kernel) rfl, gBW_t 329 (by decide +kernel) rfl, gBW_t 330 (by decide +kernel) rfl, gBW_t 2 (by decide +kernel) rfl, by decide, by decide, by decide +kernel⟩
theorem LL_130 : gLv RL 130 yX10_errorCode cX10_errorCode 1 (some .int) 0 := ⟨gBW_t 378 (by decide +kernel) rfl, gBW_t 375 (by decide +kernel) rfl, gBW_t 376 (by decide +kernel) rfl, gBW_t 377 (by decide +kernel) rfl, gBW_t 1 (by decide +kernel) rfl, by decide, by decide, by decide +kernel⟩
theorem LL_134 : gLv RL 134 yX10_errorPosition cX10_errorPosition 1 (some .int) 0 := ⟨gBW_t 382 (by decide +kernel) rfl, gBW_t 379 (by decide +kernel) rfl, gBW_t 380 (by decide +kernel) rfl, gBW_t 381 (by decide +kernel) rfl, gBW_t 1 (by decide +kernel) rfl, by decide, by decide, by decide +kernel⟩
theorem LL_185 : gLv RL 185 yX10_turned cX10_turned 1 (some .int) 0 := ⟨gBW_t 386 (by decide +kernel) rfl, gBW_t 383 (by decide +kernel) rfl, gBW_t 384 (by decide +kernel) rfl, gBW_t 385 (by decide +kernel) rfl, gBW_t 1 (by decide +kernel) rfl, by decide, by decide, by decide +kernel⟩
theorem LX10_307 : gLv RX10 307 yX8_sortAll cX8_sortAll 2 none 1 := ⟨gBW_t 390 (by decide +kernel) rfl, gBW_t 387 (by decide +kernel) rfl, gBW_t 388 (by decide +kernel) rfl, gBW_t 389 (by decide +kernel) rfl, gBW_t 9 (by decide +kernel) rfl, by decide, by decide, by decide +kernel⟩
theorem LX8_34 : gLv RX8 34 yX8_sortPart cX8_sortPart 7 none 3 := ⟨gBW_t 394 (by decide +kernel) rfl, gBW_t 391 (by decide +kernel) rfl, gBW_t 393 (by decide +kernel) rfl, gBW_s 0 (by decide +kernel) rfl, gBW_t 9 (by decide +kernel) rfl, by decide, by decide, by decide +kernel⟩
theorem LX8_41 : gLv RX8 41 yX7_putPlaces cX7_putPlaces 5 none 3 := ⟨gBW_t 398 (by decide +kernel) rfl, gBW_t 395 (by decide +kernel) rfl, gBW_t 396 (by decide +kernel) rfl, gBW_t 397 (by decide +kernel) rfl, gBW_t 8 (by decide +kernel) rfl, by decide, by decide, by decide +kernel⟩
theorem LX7_19 : gLv RX7 19 yX7_put cX7_put 2 none 1 := ⟨gBW_t 402 (by decide +kernel) rfl, gBW_t 399 (by decide +kernel) rfl, gBW_t 400 (by decide +kernel) rfl, gBW_t 401 (by decide +kernel) rfl, gBW_t 8 (by decide +kernel) rfl, by decide, by decide, by decide +kernel⟩
theorem LX8_44 : gLv RX8 44 yX8_lookBefore cX8_lookBefore 7 none 3 := ⟨gBW_t 406 (by decide +kernel) rfl, gBW_t 403 (by decide +kernel) rfl, gBW_t 405 (by decide +kernel) rfl, gBW_s 1 (by decide +kernel) rfl, gBW_t 9 (by decide +kernel) rfl, by decide, by decide, by decide +kernel⟩
theorem LX8_58 : gLs RX8 58 yJ7_fill_53178 cJ7_fill_53178 4 none 2 := ⟨gBW_t 409 (by decide +kernel) rfl, gBW_t 407 (by decide +kernel) rfl, gBW_t 408 (by decide +kernel) rfl, gBW_t 18 (by decide +kernel) rfl, by decide, by decide, by decide +kernel⟩
theorem LX8_47 : gLv RX8 47 yX8_freePlace cX8_freePlace 5 (some .int) 2 := ⟨gBW_t 413 (by decide +kernel) rfl, gBW_t 410 (by decide +kernel) rfl, gBW_t 412 (by decide +kernel) rfl, gBW_s 2 (by decide +kernel) rfl, gBW_t 9 (by decide +kernel) rfl, by decide, by decide, by decide +kernel⟩
theorem LX8_54 : gLv RX8 54 yX7_put cX7_put 2 none 1 := ⟨gBW_t 402 (by decide +kernel) rfl, gBW_t 417 (by decide +kernel) rfl, gBW_t 400 (by decide +kernel) rfl, gBW_t 401 (by decide +kernel) rfl, gBW_t 8 (by decide +kernel) rfl, by decide, by decide, by decide +kernel⟩
theorem LX10_318 : gLv RX10 318 yX8_turnedPairs cX8_turnedPairs 5 (some .int) 1 := ⟨gBW_t 421 (by decide +kernel) rfl, gBW_t 418 (by decide +kernel) rfl, gBW_t 419 (by decide +kernel) rfl, gBW_t 420 (by decide +kernel) rfl, gBW_t 9 (by decide +kernel) rfl, by decide, by decide, by decide +kernel⟩
theorem LL_189 : gLv RL 189 yX10_length cX10_length 1 (some .int) 0 := ⟨gBW_t 425 (by decide +kernel) rfl, gBW_t 422 (by decide +kernel) rfl, gBW_t 423 (by decide +kernel) rfl, gBW_t 424 (by decide +kernel) rfl, gBW_t 1 (by decide +kernel) rfl, by decide, by decide, by decide +kernel⟩
theorem LX10_227 : gLv RX10 227 yX0_measure cX0_measure 3 none 1 := ⟨gBW_t 429 (by decide +kernel) rfl, gBW_t 426 (by decide +kernel) rfl, gBW_t 427 (by decide +kernel) rfl, gBW_t 428 (by decide +kernel) rfl, gBW_t 10 (by decide +kernel) rfl, by decide, by decide, by decide +kernel⟩
theorem LX0_28 : gLs RX0 28 yJ7_fill_53178 cJ7_fill_53178 4 none 2 := ⟨gBW_t 409 (by decide +kernel) rfl, gBW_t 430 (by decide +kernel) rfl, gBW_t 408 (by decide +kernel) rfl, gBW_t 18 (by decide +kernel) rfl, by decide, by decide, by decide +kernel⟩
theorem LX0_46 : gLv RX0 46 yX0_goOn cX0_goOn 5 none 2 := ⟨gBW_t 434 (by decide +kernel) rfl, gBW_t 431 (by decide +kernel) rfl, gBW_t 433 (by decide +kernel) rfl, gBW_s 3 (by decide +kernel) rfl, gBW_t 10 (by decide +kernel) rfl, by decide, by decide, by decide +kernel⟩
theorem LX0_56 : gLv RX0 56 yX0_goBack cX0_goBack 5 none 2 := ⟨gBW_t 441 (by decide +kernel) rfl, gBW_t 438 (by decide +kernel) rfl, gBW_t 440 (by decide +kernel) rfl, gBW_s 4 (by decide +kernel) rfl, gBW_t 10 (by decide +kernel) rfl, by decide, by decide, by decide +kernel⟩
theorem LL_193 : gLv RL 193 yX10_tight cX10_tight 3 (some .int) 0 := ⟨gBW_t 445 (by decide +kernel) rfl, gBW_t 442 (by decide +kernel) rfl, gBW_t 443 (by decide +kernel) rfl, gBW_t 444 (by decide +kernel) rfl, gBW_t 1 (by decide +kernel) rfl, by decide, by decide, by decide +kernel⟩
theorem LX10_237 : gLv RX10 237 yX0_slackAt cX0_slackAt 2 (some .int) 1 := ⟨gBW_t 449 (by decide +kernel) rfl, gBW_t 446 (by decide +kernel) rfl, gBW_t 447 (by decide +kernel) rfl, gBW_t 448 (by decide +kernel) rfl, gBW_t 10 (by decide +kernel) rfl, by decide, by decide, by decide +kernel⟩
theorem LX10_183 : gLs RX10 183 yX10_headOf cX10_headOf 1 (some .int) 1 := ⟨gBW_t 452 (by decide +kernel) rfl, gBW_t 450 (by decide +kernel) rfl, gBW_t 451 (by decide +kernel) rfl, gBW_t 1 (by decide +kernel) rfl, by decide, by decide, by decide +kernel⟩
theorem LX10_398 : gLs RX10 398 yJ6_numberOfTrailingZeros_0f7a4 cJ6_numberOfTrailingZeros_0f7a4 2 (some .int) 1 := ⟨gBW_t 455 (by decide +kernel) rfl, gBW_t 453 (by decide +kernel) rfl, gBW_t 454 (by decide +kernel) rfl, gBW_t 23 (by decide +kernel) rfl, by decide, by decide, by decide +kernel⟩
theorem LL_197 : gLv RL 197 yX10_gap cX10_gap 1 (some .int) 0 := ⟨gBW_t 460 (by decide +kernel) rfl, gBW_t 457 (by decide +kernel) rfl, gBW_t 458 (by decide +kernel) rfl, gBW_t 459 (by decide +kernel) rfl, gBW_t 1 (by decide +kernel) rfl, by decide, by decide, by decide +kernel⟩
theorem LX10_325 : gLv RX10 325 yX2_wrongArrows cX2_wrongArrows 3 (some .int) 0 := ⟨gBW_t 464 (by decide +kernel) rfl, gBW_t 461 (by decide +kernel) rfl, gBW_t 462 (by decide +kernel) rfl, gBW_t 463 (by decide +kernel) rfl, gBW_t 2 (by decide +kernel) rfl, by decide, by decide, by decide +kernel⟩
theorem LX10_328 : gLv RX10 328 yX2_wrongPairs cX2_wrongPairs 5 (some .int) 0 := ⟨gBW_t 468 (by decide +kernel) rfl, gBW_t 465 (by decide +kernel) rfl, gBW_t 466 (by decide +kernel) rfl, gBW_t 467 (by decide +kernel) rfl, gBW_t 2 (by decide +kernel) rfl, by decide, by decide, by decide +kernel⟩
theorem LL_201 : gLv RL 201 yX10_weakest cX10_weakest 5 (some .int) 0 := ⟨gBW_t 473 (by decide +kernel) rfl, gBW_t 470 (by decide +kernel) rfl, gBW_t 471 (by decide +kernel) rfl, gBW_t 472 (by decide +kernel) rfl, gBW_t 1 (by decide +kernel) rfl, by decide, by decide, by decide +kernel⟩
theorem LX10_249 : gLv RX10 249 yX2_isInner cX2_isInner 2 (some .boolean) 1 := ⟨gBW_t 477 (by decide +kernel) rfl, gBW_t 474 (by decide +kernel) rfl, gBW_t 475 (by decide +kernel) rfl, gBW_t 476 (by decide +kernel) rfl, gBW_t 2 (by decide +kernel) rfl, by decide, by decide, by decide +kernel⟩
theorem LX10_331 : gLv RX10 331 yX2_isNeedless cX2_isNeedless 9 (some .boolean) 1 := ⟨gBW_t 481 (by decide +kernel) rfl, gBW_t 478 (by decide +kernel) rfl, gBW_t 479 (by decide +kernel) rfl, gBW_t 480 (by decide +kernel) rfl, gBW_t 2 (by decide +kernel) rfl, by decide, by decide, by decide +kernel⟩
theorem LX10_334 : gLv RX10 334 yX8_partsWithout cX8_partsWithout 3 (some .int) 2 := ⟨gBW_t 485 (by decide +kernel) rfl, gBW_t 482 (by decide +kernel) rfl, gBW_t 483 (by decide +kernel) rfl, gBW_t 484 (by decide +kernel) rfl, gBW_t 9 (by decide +kernel) rfl, by decide, by decide, by decide +kernel⟩
theorem LX8_109 : gLv RX8 109 yX2_closeWithout cX2_closeWithout 6 none 2 := ⟨gBW_t 489 (by decide +kernel) rfl, gBW_t 486 (by decide +kernel) rfl, gBW_t 487 (by decide +kernel) rfl, gBW_t 488 (by decide +kernel) rfl, gBW_t 2 (by decide +kernel) rfl, by decide, by decide, by decide +kernel⟩
theorem LX8_105 : gLv RX8 105 yX8_putParts cX8_putParts 9 (some .int) 3 := ⟨gBW_t 493 (by decide +kernel) rfl, gBW_t 490 (by decide +kernel) rfl, gBW_t 492 (by decide +kernel) rfl, gBW_s 5 (by decide +kernel) rfl, gBW_t 9 (by decide +kernel) rfl, by decide, by decide, by decide +kernel⟩
theorem LL_205 : gLv RL 205 yX10_needless cX10_needless 3 (some .int) 0 := ⟨gBW_t 497 (by decide +kernel) rfl, gBW_t 494 (by decide +kernel) rfl, gBW_t 495 (by decide +kernel) rfl, gBW_t 496 (by decide +kernel) rfl, gBW_t 1 (by decide +kernel) rfl, by decide, by decide, by decide +kernel⟩
theorem LL_212 : gLv RL 212 yX10_innerShare cX10_innerShare 1 (some .float) 0 := ⟨gBW_t 501 (by decide +kernel) rfl, gBW_t 498 (by decide +kernel) rfl, gBW_t 499 (by decide +kernel) rfl, gBW_t 500 (by decide +kernel) rfl, gBW_t 1 (by decide +kernel) rfl, by decide, by decide, by decide +kernel⟩
theorem LX10_162 : gLv RX10 162 yX2_innerArrows cX2_innerArrows 3 (some .int) 0 := ⟨gBW_t 505 (by decide +kernel) rfl, gBW_t 502 (by decide +kernel) rfl, gBW_t 503 (by decide +kernel) rfl, gBW_t 504 (by decide +kernel) rfl, gBW_t 2 (by decide +kernel) rfl, by decide, by decide, by decide +kernel⟩
theorem LX2_79 : gLv RX2 79 yX2_isInner cX2_isInner 2 (some .boolean) 1 := ⟨gBW_t 477 (by decide +kernel) rfl, gBW_t 506 (by decide +kernel) rfl, gBW_t 475 (by decide +kernel) rfl, gBW_t 476 (by decide +kernel) rfl, gBW_t 2 (by decide +kernel) rfl, by decide, by decide, by decide +kernel⟩
theorem LL_217 : gLv RL 217 yX10_meanMoved cX10_meanMoved 3 (some .double) 0 := ⟨gBW_t 510 (by decide +kernel) rfl, gBW_t 507 (by decide +kernel) rfl, gBW_t 508 (by decide +kernel) rfl, gBW_t 509 (by decide +kernel) rfl, gBW_t 1 (by decide +kernel) rfl, by decide, by decide, by decide +kernel⟩
theorem LL_240 : gLv RL 240 yX10_refresh cX10_refresh 1 (some .int) 0 := ⟨gBW_t 514 (by decide +kernel) rfl, gBW_t 511 (by decide +kernel) rfl, gBW_t 512 (by decide +kernel) rfl, gBW_t 513 (by decide +kernel) rfl, gBW_t 1 (by decide +kernel) rfl, by decide, by decide, by decide +kernel⟩
theorem LX10_133 : gLv RX10 133 yX10_remember cX10_remember 3 none 0 := ⟨gBW_t 518 (by decide +kernel) rfl, gBW_t 515 (by decide +kernel) rfl, gBW_t 517 (by decide +kernel) rfl, gBW_s 6 (by decide +kernel) rfl, gBW_t 1 (by decide +kernel) rfl, by decide, by decide, by decide +kernel⟩
theorem LX10_121 : gLv RX10 121 yX2_copyFrom cX2_copyFrom 2 none 1 := ⟨gBW_t 522 (by decide +kernel) rfl, gBW_t 519 (by decide +kernel) rfl, gBW_t 520 (by decide +kernel) rfl, gBW_t 521 (by decide +kernel) rfl, gBW_t 2 (by decide +kernel) rfl, by decide, by decide, by decide +kernel⟩
theorem LX10_367 : gLv RX10 367 yX8_renew cX8_renew 4 (some .int) 1 := ⟨gBW_t 529 (by decide +kernel) rfl, gBW_t 526 (by decide +kernel) rfl, gBW_t 527 (by decide +kernel) rfl, gBW_t 528 (by decide +kernel) rfl, gBW_t 9 (by decide +kernel) rfl, by decide, by decide, by decide +kernel⟩
theorem LX8_83 : gLv RX8 83 yX8_sortAll cX8_sortAll 2 none 1 := ⟨gBW_t 390 (by decide +kernel) rfl, gBW_t 530 (by decide +kernel) rfl, gBW_t 388 (by decide +kernel) rfl, gBW_t 389 (by decide +kernel) rfl, gBW_t 9 (by decide +kernel) rfl, by decide, by decide, by decide +kernel⟩
theorem LX8_89 : gLv RX8 89 yX2_takeOrder cX2_takeOrder 3 none 1 := ⟨gBW_t 534 (by decide +kernel) rfl, gBW_t 531 (by decide +kernel) rfl, gBW_t 532 (by decide +kernel) rfl, gBW_t 533 (by decide +kernel) rfl, gBW_t 2 (by decide +kernel) rfl, by decide, by decide, by decide +kernel⟩
theorem LX2_95 : gLv RX2 95 yX2_setPlaces cX2_setPlaces 3 none 0 := ⟨gBW_t 538 (by decide +kernel) rfl, gBW_t 535 (by decide +kernel) rfl, gBW_t 537 (by decide +kernel) rfl, gBW_s 7 (by decide +kernel) rfl, gBW_t 2 (by decide +kernel) rfl, by decide, by decide, by decide +kernel⟩
theorem LL_244 : gLv RL 244 yX10_writeOrder cX10_writeOrder 2 (some .int) 0 := ⟨gBW_t 542 (by decide +kernel) rfl, gBW_t 539 (by decide +kernel) rfl, gBW_t 540 (by decide +kernel) rfl, gBW_t 541 (by decide +kernel) rfl, gBW_t 1 (by decide +kernel) rfl, by decide, by decide, by decide +kernel⟩
theorem LX10_371 : gLv RX10 371 yX4_put cX4_put 2 none 1 := ⟨gBW_t 546 (by decide +kernel) rfl, gBW_t 543 (by decide +kernel) rfl, gBW_t 544 (by decide +kernel) rfl, gBW_t 545 (by decide +kernel) rfl, gBW_t 4 (by decide +kernel) rfl, by decide, by decide, by decide +kernel⟩
theorem LX10_374 : gLv RX10 374 yX4_putGroup cX4_putGroup 5 none 2 := ⟨gBW_t 550 (by decide +kernel) rfl, gBW_t 547 (by decide +kernel) rfl, gBW_t 548 (by decide +kernel) rfl, gBW_t 549 (by decide +kernel) rfl, gBW_t 4 (by decide +kernel) rfl, by decide, by decide, by decide +kernel⟩
theorem LX4_27 : gLs RX4 27 yJ6_bitCount_0f7a4 cJ6_bitCount_0f7a4 1 (some .int) 1 := ⟨gBW_t 553 (by decide +kernel) rfl, gBW_t 551 (by decide +kernel) rfl, gBW_t 552 (by decide +kernel) rfl, gBW_t 23 (by decide +kernel) rfl, by decide, by decide, by decide +kernel⟩
theorem LX4_23 : gLv RX4 23 yX4_put cX4_put 2 none 1 := ⟨gBW_t 546 (by decide +kernel) rfl, gBW_t 557 (by decide +kernel) rfl, gBW_t 544 (by decide +kernel) rfl, gBW_t 545 (by decide +kernel) rfl, gBW_t 4 (by decide +kernel) rfl, by decide, by decide, by decide +kernel⟩
theorem LX4_49 : gLv RX4 49 yX4_putName cX4_putName 5 none 1 := ⟨gBW_t 563 (by decide +kernel) rfl, gBW_t 560 (by decide +kernel) rfl, gBW_t 561 (by decide +kernel) rfl, gBW_t 562 (by decide +kernel) rfl, gBW_t 4 (by decide +kernel) rfl, by decide, by decide, by decide +kernel⟩
theorem LL_251 : gLv RL 251 yX10_outputByte cX10_outputByte 2 (some .int) 1 := ⟨gBW_t 570 (by decide +kernel) rfl, gBW_t 567 (by decide +kernel) rfl, gBW_t 568 (by decide +kernel) rfl, gBW_t 569 (by decide +kernel) rfl, gBW_t 1 (by decide +kernel) rfl, by decide, by decide, by decide +kernel⟩
theorem LL_255 : gLv RL 255 yX10_undo cX10_undo 1 (some .int) 0 := ⟨gBW_t 574 (by decide +kernel) rfl, gBW_t 571 (by decide +kernel) rfl, gBW_t 572 (by decide +kernel) rfl, gBW_t 573 (by decide +kernel) rfl, gBW_t 1 (by decide +kernel) rfl, by decide, by decide, by decide +kernel⟩
theorem LL_259 : gLv RL 259 yX10_save cX10_save 1 (some .int) 0 := ⟨gBW_t 578 (by decide +kernel) rfl, gBW_t 575 (by decide +kernel) rfl, gBW_t 576 (by decide +kernel) rfl, gBW_t 577 (by decide +kernel) rfl, gBW_t 1 (by decide +kernel) rfl, by decide, by decide, by decide +kernel⟩
theorem LL_7 : gLv RL 7 yX10_append cX10_append 6 (some .int) 5 := ⟨gBW_t 586 (by decide +kernel) rfl, gBW_t 583 (by decide +kernel) rfl, gBW_t 584 (by decide +kernel) rfl, gBW_t 585 (by decide +kernel) rfl, gBW_t 1 (by decide +kernel) rfl, by decide, by decide, by decide +kernel⟩
theorem LX10_106 : gLv RX10 106 yX5_putNumber cX5_putNumber 3 none 1 := ⟨gBW_t 657 (by decide +kernel) rfl, gBW_t 654 (by decide +kernel) rfl, gBW_t 655 (by decide +kernel) rfl, gBW_t 656 (by decide +kernel) rfl, gBW_t 3 (by decide +kernel) rfl, by decide, by decide, by decide +kernel⟩
theorem LL_15 : gLv RL 15 yX10_truncate cX10_truncate 2 (some .int) 1 := ⟨gBW_t 665 (by decide +kernel) rfl, gBW_t 662 (by decide +kernel) rfl, gBW_t 663 (by decide +kernel) rfl, gBW_t 664 (by decide +kernel) rfl, gBW_t 1 (by decide +kernel) rfl, by decide, by decide, by decide +kernel⟩
theorem LL_21 : gLv RL 21 yX10_readText cX10_readText 2 (some .int) 0 := ⟨gBW_t 688 (by decide +kernel) rfl, gBW_t 685 (by decide +kernel) rfl, gBW_t 686 (by decide +kernel) rfl, gBW_t 687 (by decide +kernel) rfl, gBW_t 1 (by decide +kernel) rfl, by decide, by decide, by decide +kernel⟩
theorem LX10_115 : gLv RX10 115 yX1_readAll cX1_readAll 6 (some .boolean) 3 := ⟨gBW_t 692 (by decide +kernel) rfl, gBW_t 689 (by decide +kernel) rfl, gBW_t 690 (by decide +kernel) rfl, gBW_t 691 (by decide +kernel) rfl, gBW_t 5 (by decide +kernel) rfl, by decide, by decide, by decide +kernel⟩
theorem LX1_18 : gLv RX1 18 yX2_clear cX2_clear 1 none 0 := ⟨gBW_t 696 (by decide +kernel) rfl, gBW_t 693 (by decide +kernel) rfl, gBW_t 694 (by decide +kernel) rfl, gBW_t 695 (by decide +kernel) rfl, gBW_t 2 (by decide +kernel) rfl, by decide, by decide, by decide +kernel⟩
theorem LX2_56 : gLv RX2 56 yX2_clearAccounts cX2_clearAccounts 1 none 0 := ⟨gBW_t 700 (by decide +kernel) rfl, gBW_t 697 (by decide +kernel) rfl, gBW_t 698 (by decide +kernel) rfl, gBW_t 699 (by decide +kernel) rfl, gBW_t 2 (by decide +kernel) rfl, by decide, by decide, by decide +kernel⟩
theorem LX2_59 : gLs RX2 59 yJ7_fill_d0a16 cJ7_fill_d0a16 5 none 2 := ⟨gBW_t 703 (by decide +kernel) rfl, gBW_t 701 (by decide +kernel) rfl, gBW_t 702 (by decide +kernel) rfl, gBW_t 18 (by decide +kernel) rfl, by decide, by decide, by decide +kernel⟩
theorem LX1_23 : gLv RX1 23 yX5_begin cX5_begin 1 none 0 := ⟨gBW_t 707 (by decide +kernel) rfl, gBW_t 704 (by decide +kernel) rfl, gBW_t 705 (by decide +kernel) rfl, gBW_t 706 (by decide +kernel) rfl, gBW_t 3 (by decide +kernel) rfl, by decide, by decide, by decide +kernel⟩
theorem LX1_28 : gLv RX1 28 yX1_readStatement cX1_readStatement 4 (some .boolean) 3 := ⟨gBW_t 711 (by decide +kernel) rfl, gBW_t 708 (by decide +kernel) rfl, gBW_t 710 (by decide +kernel) rfl, gBW_s 9 (by decide +kernel) rfl, gBW_t 5 (by decide +kernel) rfl, by decide, by decide, by decide +kernel⟩
theorem LX1_45 : gLv RX1 45 yX5_readWord cX5_readWord 1 (some .boolean) 0 := ⟨gBW_t 715 (by decide +kernel) rfl, gBW_t 712 (by decide +kernel) rfl, gBW_t 713 (by decide +kernel) rfl, gBW_t 714 (by decide +kernel) rfl, gBW_t 3 (by decide +kernel) rfl, by decide, by decide, by decide +kernel⟩
theorem LX5_31 : gLv RX5 31 yX5_skipSpaces cX5_skipSpaces 1 none 0 := ⟨gBW_t 719 (by decide +kernel) rfl, gBW_t 716 (by decide +kernel) rfl, gBW_t 717 (by decide +kernel) rfl, gBW_t 718 (by decide +kernel) rfl, gBW_t 3 (by decide +kernel) rfl, by decide, by decide, by decide +kernel⟩
theorem LX5_34 : gLv RX5 34 yX5_isLetterAt cX5_isLetterAt 2 (some .boolean) 1 := ⟨gBW_t 723 (by decide +kernel) rfl, gBW_t 720 (by decide +kernel) rfl, gBW_t 722 (by decide +kernel) rfl, gBW_s 10 (by decide +kernel) rfl, gBW_t 3 (by decide +kernel) rfl, by decide, by decide, by decide +kernel⟩
theorem LX5_38 : gLv RX5 38 yX5_fail cX5_fail 3 (some .boolean) 2 := ⟨gBW_t 727 (by decide +kernel) rfl, gBW_t 724 (by decide +kernel) rfl, gBW_t 725 (by decide +kernel) rfl, gBW_t 726 (by decide +kernel) rfl, gBW_t 3 (by decide +kernel) rfl, by decide, by decide, by decide +kernel⟩
theorem LX1_50 : gLv RX1 50 yX5_wordIs cX5_wordIs 3 (some .boolean) 1 := ⟨gBW_t 732 (by decide +kernel) rfl, gBW_t 729 (by decide +kernel) rfl, gBW_t 730 (by decide +kernel) rfl, gBW_t 731 (by decide +kernel) rfl, gBW_t 3 (by decide +kernel) rfl, by decide, by decide, by decide +kernel⟩
theorem LX5_42 : gLv RX5 42 yJ0_length_8abf5 cJ0_length_8abf5 1 (some .int) 0 := ⟨gBW_t 736 (by decide +kernel) rfl, gBW_t 733 (by decide +kernel) rfl, gBW_t 734 (by decide +kernel) rfl, gBW_t 735 (by decide +kernel) rfl, gBW_t 19 (by decide +kernel) rfl, by decide, by decide, by decide +kernel⟩
theorem LJ0_335 : gLv RJ0 335 yJ0_coder_7d493 cJ0_coder_7d493 1 (some .byte) 0 := ⟨gBW_t 740 (by decide +kernel) rfl, gBW_t 737 (by decide +kernel) rfl, gBW_t 738 (by decide +kernel) rfl, gBW_t 739 (by decide +kernel) rfl, gBW_t 19 (by decide +kernel) rfl, by decide, by decide, by decide +kernel⟩
theorem LX5_48 : gLv RX5 48 yJ0_charAt_5068e cJ0_charAt_5068e 2 (some .char) 1 := ⟨gBW_t 746 (by decide +kernel) rfl, gBW_t 743 (by decide +kernel) rfl, gBW_t 744 (by decide +kernel) rfl, gBW_t 745 (by decide +kernel) rfl, gBW_t 19 (by decide +kernel) rfl, by decide, by decide, by decide +kernel⟩
theorem LJ0_492 : gLv RJ0 492 yJ0_isLatin1_aae02 cJ0_isLatin1_aae02 1 (some .boolean) 0 := ⟨gBW_t 750 (by decide +kernel) rfl, gBW_t 747 (by decide +kernel) rfl, gBW_t 748 (by decide +kernel) rfl, gBW_t 749 (by decide +kernel) rfl, gBW_t 19 (by decide +kernel) rfl, by decide, by decide, by decide +kernel⟩
theorem LJ0_495 : gLs RJ0 495 yJ1_charAt_3b067 cJ1_charAt_3b067 2 (some .char) 2 := ⟨gBW_t 753 (by decide +kernel) rfl, gBW_t 751 (by decide +kernel) rfl, gBW_t 752 (by decide +kernel) rfl, gBW_t 20 (by decide +kernel) rfl, by decide, by decide, by decide +kernel⟩
theorem LJ1_9 : gLs RJ1 9 yJ0_checkIndex_df160 cJ0_checkIndex_df160 2 none 2 := ⟨gBW_t 756 (by decide +kernel) rfl, gBW_t 754 (by decide +kernel) rfl, gBW_t 755 (by decide +kernel) rfl, gBW_t 19 (by decide +kernel) rfl, by decide, by decide, by decide +kernel⟩
theorem LJ0_1059 : gLs RJ0 1059 yJ3_checkIndex_8e157 cJ3_checkIndex_8e157 3 (some .int) 3 := ⟨gBW_t 761 (by decide +kernel) rfl, gBW_t 759 (by decide +kernel) rfl, gBW_t 760 (by decide +kernel) rfl, gBW_t 21 (by decide +kernel) rfl, by decide, by decide, by decide +kernel⟩
theorem LJ0_498 : gLs RJ0 498 yJ2_charAt_3b067 cJ2_charAt_3b067 2 (some .char) 2 := ⟨gBW_t 764 (by decide +kernel) rfl, gBW_t 762 (by decide +kernel) rfl, gBW_t 763 (by decide +kernel) rfl, gBW_t 22 (by decide +kernel) rfl, by decide, by decide, by decide +kernel⟩
theorem LJ2_67 : gLs RJ2 67 yJ2_checkIndex_2214a cJ2_checkIndex_2214a 2 none 2 := ⟨gBW_t 767 (by decide +kernel) rfl, gBW_t 765 (by decide +kernel) rfl, gBW_t 766 (by decide +kernel) rfl, gBW_t 22 (by decide +kernel) rfl, by decide, by decide, by decide +kernel⟩
theorem LJ2_48 : gLs RJ2 48 yJ2_length_9d52b cJ2_length_9d52b 1 (some .int) 1 := ⟨gBW_t 770 (by decide +kernel) rfl, gBW_t 768 (by decide +kernel) rfl, gBW_t 769 (by decide +kernel) rfl, gBW_t 22 (by decide +kernel) rfl, by decide, by decide, by decide +kernel⟩
theorem LJ2_414 : gLs RJ2 414 yJ0_checkIndex_df160 cJ0_checkIndex_df160 2 none 2 := ⟨gBW_t 756 (by decide +kernel) rfl, gBW_t 771 (by decide +kernel) rfl, gBW_t 755 (by decide +kernel) rfl, gBW_t 19 (by decide +kernel) rfl, by decide, by decide, by decide +kernel⟩
theorem LJ2_71 : gLs RJ2 71 yJ2_getChar_3b067 cJ2_getChar_3b067 2 (some .char) 2 := ⟨gBW_t 774 (by decide +kernel) rfl, gBW_t 772 (by decide +kernel) rfl, gBW_t 773 (by decide +kernel) rfl, gBW_t 22 (by decide +kernel) rfl, by decide, by decide, by decide +kernel⟩
theorem LX1_54 : gLv RX1 54 yX1_readNewTask cX1_readNewTask 6 (some .boolean) 2 := ⟨gBW_t 784 (by decide +kernel) rfl, gBW_t 781 (by decide +kernel) rfl, gBW_t 783 (by decide +kernel) rfl, gBW_s 11 (by decide +kernel) rfl, gBW_t 5 (by decide +kernel) rfl, by decide, by decide, by decide +kernel⟩
theorem LX1_65 : gLv RX1 65 yX5_fail cX5_fail 3 (some .boolean) 2 := ⟨gBW_t 727 (by decide +kernel) rfl, gBW_t 785 (by decide +kernel) rfl, gBW_t 725 (by decide +kernel) rfl, gBW_t 726 (by decide +kernel) rfl, gBW_t 3 (by decide +kernel) rfl, by decide, by decide, by decide +kernel⟩
theorem LX1_84 : gLv RX1 84 yX5_readName cX5_readName 1 (some .long) 0 := ⟨gBW_t 789 (by decide +kernel) rfl, gBW_t 786 (by decide +kernel) rfl, gBW_t 787 (by decide +kernel) rfl, gBW_t 788 (by decide +kernel) rfl, gBW_t 3 (by decide +kernel) rfl, by decide, by decide, by decide +kernel⟩
theorem LX5_52 : gLv RX5 52 yX5_readWord cX5_readWord 1 (some .boolean) 0 := ⟨gBW_t 715 (by decide +kernel) rfl, gBW_t 790 (by decide +kernel) rfl, gBW_t 713 (by decide +kernel) rfl, gBW_t 714 (by decide +kernel) rfl, gBW_t 3 (by decide +kernel) rfl, by decide, by decide, by decide +kernel⟩
theorem LX5_56 : gLv RX5 56 yX5_packed cX5_packed 6 (some .long) 2 := ⟨gBW_t 794 (by decide +kernel) rfl, gBW_t 791 (by decide +kernel) rfl, gBW_t 793 (by decide +kernel) rfl, gBW_s 12 (by decide +kernel) rfl, gBW_t 3 (by decide +kernel) rfl, by decide, by decide, by decide +kernel⟩
theorem LX1_88 : gLv RX1 88 yX2_taskNamed cX2_taskNamed 4 (some .int) 1 := ⟨gBW_t 798 (by decide +kernel) rfl, gBW_t 795 (by decide +kernel) rfl, gBW_t 796 (by decide +kernel) rfl, gBW_t 797 (by decide +kernel) rfl, gBW_t 2 (by decide +kernel) rfl, by decide, by decide, by decide +kernel⟩
theorem LX1_92 : gLv RX1 92 yX5_readNumber cX5_readNumber 4 (some .int) 2 := ⟨gBW_t 802 (by decide +kernel) rfl, gBW_t 799 (by decide +kernel) rfl, gBW_t 800 (by decide +kernel) rfl, gBW_t 801 (by decide +kernel) rfl, gBW_t 3 (by decide +kernel) rfl, by decide, by decide, by decide +kernel⟩
theorem LX5_70 : gLv RX5 70 yX5_isDigitAt cX5_isDigitAt 2 (some .boolean) 1 := ⟨gBW_t 806 (by decide +kernel) rfl, gBW_t 803 (by decide +kernel) rfl, gBW_t 805 (by decide +kernel) rfl, gBW_s 13 (by decide +kernel) rfl, gBW_t 3 (by decide +kernel) rfl, by decide, by decide, by decide +kernel⟩
theorem LX1_96 : gLv RX1 96 yX2_addTask cX2_addTask 4 none 2 := ⟨gBW_t 331 (by decide +kernel) rfl, gBW_t 807 (by decide +kernel) rfl, gBW_t 329 (by decide +kernel) rfl, gBW_t 330 (by decide +kernel) rfl, gBW_t 2 (by decide +kernel) rfl, by decide, by decide, by decide +kernel⟩
theorem LX1_71 : gLv RX1 71 yX1_readArrow cX1_readArrow 6 (some .boolean) 3 := ⟨gBW_t 812 (by decide +kernel) rfl, gBW_t 809 (by decide +kernel) rfl, gBW_t 811 (by decide +kernel) rfl, gBW_s 14 (by decide +kernel) rfl, gBW_t 5 (by decide +kernel) rfl, by decide, by decide, by decide +kernel⟩
theorem LX1_103 : gLv RX1 103 yX5_readTask cX5_readTask 5 (some .int) 1 := ⟨gBW_t 816 (by decide +kernel) rfl, gBW_t 813 (by decide +kernel) rfl, gBW_t 814 (by decide +kernel) rfl, gBW_t 815 (by decide +kernel) rfl, gBW_t 3 (by decide +kernel) rfl, by decide, by decide, by decide +kernel⟩
theorem LX5_60 : gLv RX5 60 yX5_readName cX5_readName 1 (some .long) 0 := ⟨gBW_t 789 (by decide +kernel) rfl, gBW_t 817 (by decide +kernel) rfl, gBW_t 787 (by decide +kernel) rfl, gBW_t 788 (by decide +kernel) rfl, gBW_t 3 (by decide +kernel) rfl, by decide, by decide, by decide +kernel⟩
theorem LX5_64 : gLv RX5 64 yX2_taskNamed cX2_taskNamed 4 (some .int) 1 := ⟨gBW_t 798 (by decide +kernel) rfl, gBW_t 818 (by decide +kernel) rfl, gBW_t 796 (by decide +kernel) rfl, gBW_t 797 (by decide +kernel) rfl, gBW_t 2 (by decide +kernel) rfl, by decide, by decide, by decide +kernel⟩
theorem LX1_107 : gLv RX1 107 yX2_refusal cX2_refusal 4 (some .int) 2 := ⟨gBW_t 822 (by decide +kernel) rfl, gBW_t 819 (by decide +kernel) rfl, gBW_t 820 (by decide +kernel) rfl, gBW_t 821 (by decide +kernel) rfl, gBW_t 2 (by decide +kernel) rfl, by decide, by decide, by decide +kernel⟩
theorem LX1_110 : gLv RX1 110 yX6_bring cX6_bring 5 (some .int) 3 := ⟨gBW_t 826 (by decide +kernel) rfl, gBW_t 823 (by decide +kernel) rfl, gBW_t 824 (by decide +kernel) rfl, gBW_t 825 (by decide +kernel) rfl, gBW_t 7 (by decide +kernel) rfl, by decide, by decide, by decide +kernel⟩
theorem LX6_112 : gLv RX6 112 yX6_survey cX6_survey 7 none 3 := ⟨gBW_t 830 (by decide +kernel) rfl, gBW_t 827 (by decide +kernel) rfl, gBW_t 828 (by decide +kernel) rfl, gBW_t 829 (by decide +kernel) rfl, gBW_t 7 (by decide +kernel) rfl, by decide, by decide, by decide +kernel⟩
theorem LX6_46 : gLv RX6 46 yX2_reachedBy cX2_reachedBy 4 (some .int) 1 := ⟨gBW_t 834 (by decide +kernel) rfl, gBW_t 831 (by decide +kernel) rfl, gBW_t 832 (by decide +kernel) rfl, gBW_t 833 (by decide +kernel) rfl, gBW_t 2 (by decide +kernel) rfl, by decide, by decide, by decide +kernel⟩
theorem LX6_57 : gLv RX6 57 yX6_countLooked cX6_countLooked 3 none 1 := ⟨gBW_t 839 (by decide +kernel) rfl, gBW_t 836 (by decide +kernel) rfl, gBW_t 838 (by decide +kernel) rfl, gBW_s 15 (by decide +kernel) rfl, gBW_t 7 (by decide +kernel) rfl, by decide, by decide, by decide +kernel⟩
theorem LX6_64 : gLv RX6 64 yX2_isInner cX2_isInner 2 (some .boolean) 1 := ⟨gBW_t 477 (by decide +kernel) rfl, gBW_t 840 (by decide +kernel) rfl, gBW_t 475 (by decide +kernel) rfl, gBW_t 476 (by decide +kernel) rfl, gBW_t 2 (by decide +kernel) rfl, by decide, by decide, by decide +kernel⟩
theorem LX6_115 : gLv RX6 115 yX6_affected cX6_affected 1 (some .int) 0 := ⟨gBW_t 844 (by decide +kernel) rfl, gBW_t 841 (by decide +kernel) rfl, gBW_t 842 (by decide +kernel) rfl, gBW_t 843 (by decide +kernel) rfl, gBW_t 7 (by decide +kernel) rfl, by decide, by decide, by decide +kernel⟩
theorem LX6_122 : gLv RX6 122 yX6_arrange cX6_arrange 4 (some .int) 2 := ⟨gBW_t 848 (by decide +kernel) rfl, gBW_t 845 (by decide +kernel) rfl, gBW_t 846 (by decide +kernel) rfl, gBW_t 847 (by decide +kernel) rfl, gBW_t 7 (by decide +kernel) rfl, by decide, by decide, by decide +kernel⟩
theorem LX6_77 : gLv RX6 77 yX7_putPlaces cX7_putPlaces 5 none 3 := ⟨gBW_t 398 (by decide +kernel) rfl, gBW_t 849 (by decide +kernel) rfl, gBW_t 396 (by decide +kernel) rfl, gBW_t 397 (by decide +kernel) rfl, gBW_t 8 (by decide +kernel) rfl, by decide, by decide, by decide +kernel⟩
theorem LX6_81 : gLv RX6 81 yX6_dealOut cX6_dealOut 7 none 1 := ⟨gBW_t 853 (by decide +kernel) rfl, gBW_t 850 (by decide +kernel) rfl, gBW_t 852 (by decide +kernel) rfl, gBW_s 16 (by decide +kernel) rfl, gBW_t 7 (by decide +kernel) rfl, by decide, by decide, by decide +kernel⟩
theorem LX6_99 : gLs RX6 99 yJ6_bitCount_0f7a4 cJ6_bitCount_0f7a4 1 (some .int) 1 := ⟨gBW_t 553 (by decide +kernel) rfl, gBW_t 854 (by decide +kernel) rfl, gBW_t 552 (by decide +kernel) rfl, gBW_t 23 (by decide +kernel) rfl, by decide, by decide, by decide +kernel⟩
theorem LX6_104 : gLv RX6 104 yX7_put cX7_put 2 none 1 := ⟨gBW_t 402 (by decide +kernel) rfl, gBW_t 855 (by decide +kernel) rfl, gBW_t 400 (by decide +kernel) rfl, gBW_t 401 (by decide +kernel) rfl, gBW_t 8 (by decide +kernel) rfl, by decide, by decide, by decide +kernel⟩
theorem LX6_107 : gLs RX6 107 yJ6_numberOfTrailingZeros_0f7a4 cJ6_numberOfTrailingZeros_0f7a4 2 (some .int) 1 := ⟨gBW_t 455 (by decide +kernel) rfl, gBW_t 856 (by decide +kernel) rfl, gBW_t 454 (by decide +kernel) rfl, gBW_t 23 (by decide +kernel) rfl, by decide, by decide, by decide +kernel⟩
theorem LX6_84 : gLv RX6 84 yX6_putThose cX6_putThose 4 none 2 := ⟨gBW_t 860 (by decide +kernel) rfl, gBW_t 857 (by decide +kernel) rfl, gBW_t 859 (by decide +kernel) rfl, gBW_s 17 (by decide +kernel) rfl, gBW_t 7 (by decide +kernel) rfl, by decide, by decide, by decide +kernel⟩
theorem LX6_88 : gLv RX6 88 yX7_putSome cX7_putSome 2 none 1 := ⟨gBW_t 864 (by decide +kernel) rfl, gBW_t 861 (by decide +kernel) rfl, gBW_t 862 (by decide +kernel) rfl, gBW_t 863 (by decide +kernel) rfl, gBW_t 8 (by decide +kernel) rfl, by decide, by decide, by decide +kernel⟩
theorem LX6_95 : gLv RX6 95 yX6_countMoved cX6_countMoved 5 (some .int) 2 := ⟨gBW_t 868 (by decide +kernel) rfl, gBW_t 865 (by decide +kernel) rfl, gBW_t 867 (by decide +kernel) rfl, gBW_s 18 (by decide +kernel) rfl, gBW_t 7 (by decide +kernel) rfl, by decide, by decide, by decide +kernel⟩
theorem LX6_125 : gLv RX6 125 yX2_takeOrder cX2_takeOrder 3 none 1 := ⟨gBW_t 534 (by decide +kernel) rfl, gBW_t 869 (by decide +kernel) rfl, gBW_t 532 (by decide +kernel) rfl, gBW_t 533 (by decide +kernel) rfl, gBW_t 2 (by decide +kernel) rfl, by decide, by decide, by decide +kernel⟩
theorem LX6_133 : gLv RX6 133 yX2_putArrow cX2_putArrow 4 none 2 := ⟨gBW_t 873 (by decide +kernel) rfl, gBW_t 870 (by decide +kernel) rfl, gBW_t 871 (by decide +kernel) rfl, gBW_t 872 (by decide +kernel) rfl, gBW_t 2 (by decide +kernel) rfl, by decide, by decide, by decide +kernel⟩
theorem LX1_76 : gLv RX1 76 yX1_readMode cX1_readMode 3 (some .boolean) 2 := ⟨gBW_t 878 (by decide +kernel) rfl, gBW_t 875 (by decide +kernel) rfl, gBW_t 877 (by decide +kernel) rfl, gBW_s 19 (by decide +kernel) rfl, gBW_t 5 (by decide +kernel) rfl, by decide, by decide, by decide +kernel⟩
theorem LX1_81 : gLv RX1 81 yX1_readJoin cX1_readJoin 3 (some .boolean) 2 := ⟨gBW_t 883 (by decide +kernel) rfl, gBW_t 880 (by decide +kernel) rfl, gBW_t 882 (by decide +kernel) rfl, gBW_s 20 (by decide +kernel) rfl, gBW_t 5 (by decide +kernel) rfl, by decide, by decide, by decide +kernel⟩
theorem LX1_32 : gLv RX1 32 yX5_skipSpaces cX5_skipSpaces 1 none 0 := ⟨gBW_t 719 (by decide +kernel) rfl, gBW_t 884 (by decide +kernel) rfl, gBW_t 717 (by decide +kernel) rfl, gBW_t 718 (by decide +kernel) rfl, gBW_t 3 (by decide +kernel) rfl, by decide, by decide, by decide +kernel⟩
theorem LX1_35 : gLv RX1 35 yX5_isAtEnd cX5_isAtEnd 1 (some .boolean) 0 := ⟨gBW_t 888 (by decide +kernel) rfl, gBW_t 885 (by decide +kernel) rfl, gBW_t 886 (by decide +kernel) rfl, gBW_t 887 (by decide +kernel) rfl, gBW_t 3 (by decide +kernel) rfl, by decide, by decide, by decide +kernel⟩
theorem LX1_39 : gLv RX1 39 yX5_readSemicolon cX5_readSemicolon 1 (some .boolean) 0 := ⟨gBW_t 892 (by decide +kernel) rfl, gBW_t 889 (by decide +kernel) rfl, gBW_t 890 (by decide +kernel) rfl, gBW_t 891 (by decide +kernel) rfl, gBW_t 3 (by decide +kernel) rfl, by decide, by decide, by decide +kernel⟩
theorem LX5_73 : gLv RX5 73 yX5_isAtEnd cX5_isAtEnd 1 (some .boolean) 0 := ⟨gBW_t 888 (by decide +kernel) rfl, gBW_t 893 (by decide +kernel) rfl, gBW_t 886 (by decide +kernel) rfl, gBW_t 887 (by decide +kernel) rfl, gBW_t 3 (by decide +kernel) rfl, by decide, by decide, by decide +kernel⟩
theorem LX1_42 : gLv RX1 42 yX2_clearAccounts cX2_clearAccounts 1 none 0 := ⟨gBW_t 700 (by decide +kernel) rfl, gBW_t 894 (by decide +kernel) rfl, gBW_t 698 (by decide +kernel) rfl, gBW_t 699 (by decide +kernel) rfl, gBW_t 2 (by decide +kernel) rfl, by decide, by decide, by decide +kernel⟩
theorem LL_25 : gLv RL 25 yX10_runOrders cX10_runOrders 2 (some .int) 0 := ⟨gBW_t 902 (by decide +kernel) rfl, gBW_t 899 (by decide +kernel) rfl, gBW_t 900 (by decide +kernel) rfl, gBW_t 901 (by decide +kernel) rfl, gBW_t 1 (by decide +kernel) rfl, by decide, by decide, by decide +kernel⟩
theorem LX10_128 : gLv RX10 128 yX3_readAll cX3_readAll 4 (some .boolean) 2 := ⟨gBW_t 906 (by decide +kernel) rfl, gBW_t 903 (by decide +kernel) rfl, gBW_t 904 (by decide +kernel) rfl, gBW_t 905 (by decide +kernel) rfl, gBW_t 6 (by decide +kernel) rfl, by decide, by decide, by decide +kernel⟩
theorem LX3_25 : gLv RX3 25 yX5_begin cX5_begin 1 none 0 := ⟨gBW_t 707 (by decide +kernel) rfl, gBW_t 907 (by decide +kernel) rfl, gBW_t 705 (by decide +kernel) rfl, gBW_t 706 (by decide +kernel) rfl, gBW_t 3 (by decide +kernel) rfl, by decide, by decide, by decide +kernel⟩
theorem LX3_30 : gLv RX3 30 yX5_skipSpaces cX5_skipSpaces 1 none 0 := ⟨gBW_t 719 (by decide +kernel) rfl, gBW_t 908 (by decide +kernel) rfl, gBW_t 717 (by decide +kernel) rfl, gBW_t 718 (by decide +kernel) rfl, gBW_t 3 (by decide +kernel) rfl, by decide, by decide, by decide +kernel⟩
theorem LX3_33 : gLv RX3 33 yX5_isAtEnd cX5_isAtEnd 1 (some .boolean) 0 := ⟨gBW_t 888 (by decide +kernel) rfl, gBW_t 909 (by decide +kernel) rfl, gBW_t 886 (by decide +kernel) rfl, gBW_t 887 (by decide +kernel) rfl, gBW_t 3 (by decide +kernel) rfl, by decide, by decide, by decide +kernel⟩
theorem LX3_37 : gLv RX3 37 yX3_readOrder cX3_readOrder 4 (some .boolean) 2 := ⟨gBW_t 913 (by decide +kernel) rfl, gBW_t 910 (by decide +kernel) rfl, gBW_t 912 (by decide +kernel) rfl, gBW_s 21 (by decide +kernel) rfl, gBW_t 6 (by decide +kernel) rfl, by decide, by decide, by decide +kernel⟩
theorem LX3_44 : gLv RX3 44 yX5_readWord cX5_readWord 1 (some .boolean) 0 := ⟨gBW_t 715 (by decide +kernel) rfl, gBW_t 914 (by decide +kernel) rfl, gBW_t 713 (by decide +kernel) rfl, gBW_t 714 (by decide +kernel) rfl, gBW_t 3 (by decide +kernel) rfl, by decide, by decide, by decide +kernel⟩
theorem LX3_47 : gLs RX3 47 yX3_kindOf cX3_kindOf 1 (some .int) 1 := ⟨gBW_t 917 (by decide +kernel) rfl, gBW_t 915 (by decide +kernel) rfl, gBW_t 916 (by decide +kernel) rfl, gBW_t 6 (by decide +kernel) rfl, by decide, by decide, by decide +kernel⟩
theorem LX3_68 : gLv RX3 68 yX5_wordIs cX5_wordIs 3 (some .boolean) 1 := ⟨gBW_t 732 (by decide +kernel) rfl, gBW_t 919 (by decide +kernel) rfl, gBW_t 730 (by decide +kernel) rfl, gBW_t 731 (by decide +kernel) rfl, gBW_t 3 (by decide +kernel) rfl, by decide, by decide, by decide +kernel⟩
theorem LX3_54 : gLv RX3 54 yX5_fail cX5_fail 3 (some .boolean) 2 := ⟨gBW_t 727 (by decide +kernel) rfl, gBW_t 926 (by decide +kernel) rfl, gBW_t 725 (by decide +kernel) rfl, gBW_t 726 (by decide +kernel) rfl, gBW_t 3 (by decide +kernel) rfl, by decide, by decide, by decide +kernel⟩
theorem LX3_58 : gLv RX3 58 yX3_readFirst cX3_readFirst 3 (some .boolean) 2 := ⟨gBW_t 930 (by decide +kernel) rfl, gBW_t 927 (by decide +kernel) rfl, gBW_t 929 (by decide +kernel) rfl, gBW_s 22 (by decide +kernel) rfl, gBW_t 6 (by decide +kernel) rfl, by decide, by decide, by decide +kernel⟩
theorem LX3_84 : gLv RX3 84 yX5_readNumber cX5_readNumber 4 (some .int) 2 := ⟨gBW_t 802 (by decide +kernel) rfl, gBW_t 931 (by decide +kernel) rfl, gBW_t 800 (by decide +kernel) rfl, gBW_t 801 (by decide +kernel) rfl, gBW_t 3 (by decide +kernel) rfl, by decide, by decide, by decide +kernel⟩
theorem LX3_62 : gLv RX3 62 yX3_readTasks cX3_readTasks 4 (some .boolean) 3 := ⟨gBW_t 935 (by decide +kernel) rfl, gBW_t 932 (by decide +kernel) rfl, gBW_t 934 (by decide +kernel) rfl, gBW_s 23 (by decide +kernel) rfl, gBW_t 6 (by decide +kernel) rfl, by decide, by decide, by decide +kernel⟩
theorem LX3_88 : gLv RX3 88 yX5_readTask cX5_readTask 5 (some .int) 1 := ⟨gBW_t 816 (by decide +kernel) rfl, gBW_t 936 (by decide +kernel) rfl, gBW_t 814 (by decide +kernel) rfl, gBW_t 815 (by decide +kernel) rfl, gBW_t 3 (by decide +kernel) rfl, by decide, by decide, by decide +kernel⟩
theorem LX3_41 : gLv RX3 41 yX5_readSemicolon cX5_readSemicolon 1 (some .boolean) 0 := ⟨gBW_t 892 (by decide +kernel) rfl, gBW_t 937 (by decide +kernel) rfl, gBW_t 890 (by decide +kernel) rfl, gBW_t 891 (by decide +kernel) rfl, gBW_t 3 (by decide +kernel) rfl, by decide, by decide, by decide +kernel⟩
theorem LX10_136 : gLv RX10 136 yX3_runAll cX3_runAll 5 (some .int) 3 := ⟨gBW_t 942 (by decide +kernel) rfl, gBW_t 939 (by decide +kernel) rfl, gBW_t 940 (by decide +kernel) rfl, gBW_t 941 (by decide +kernel) rfl, gBW_t 6 (by decide +kernel) rfl, by decide, by decide, by decide +kernel⟩
theorem LX3_92 : gLv RX3 92 yX3_run cX3_run 7 (some .boolean) 4 := ⟨gBW_t 946 (by decide +kernel) rfl, gBW_t 943 (by decide +kernel) rfl, gBW_t 945 (by decide +kernel) rfl, gBW_s 24 (by decide +kernel) rfl, gBW_t 6 (by decide +kernel) rfl, by decide, by decide, by decide +kernel⟩
theorem LX3_96 : gLs RX3 96 yX3_runArrow cX3_runArrow 4 (some .boolean) 4 := ⟨gBW_t 949 (by decide +kernel) rfl, gBW_t 947 (by decide +kernel) rfl, gBW_t 948 (by decide +kernel) rfl, gBW_t 6 (by decide +kernel) rfl, by decide, by decide, by decide +kernel⟩
theorem LX3_121 : gLv RX3 121 yX2_refusal cX2_refusal 4 (some .int) 2 := ⟨gBW_t 822 (by decide +kernel) rfl, gBW_t 950 (by decide +kernel) rfl, gBW_t 820 (by decide +kernel) rfl, gBW_t 821 (by decide +kernel) rfl, gBW_t 2 (by decide +kernel) rfl, by decide, by decide, by decide +kernel⟩
theorem LX3_124 : gLv RX3 124 yX6_bring cX6_bring 5 (some .int) 3 := ⟨gBW_t 826 (by decide +kernel) rfl, gBW_t 951 (by decide +kernel) rfl, gBW_t 824 (by decide +kernel) rfl, gBW_t 825 (by decide +kernel) rfl, gBW_t 7 (by decide +kernel) rfl, by decide, by decide, by decide +kernel⟩
theorem LX3_100 : gLs RX3 100 yX3_runCut cX3_runCut 5 (some .boolean) 4 := ⟨gBW_t 954 (by decide +kernel) rfl, gBW_t 952 (by decide +kernel) rfl, gBW_t 953 (by decide +kernel) rfl, gBW_t 6 (by decide +kernel) rfl, by decide, by decide, by decide +kernel⟩
theorem LX3_130 : gLv RX3 130 yX2_numberOf cX2_numberOf 4 (some .int) 2 := ⟨gBW_t 958 (by decide +kernel) rfl, gBW_t 955 (by decide +kernel) rfl, gBW_t 956 (by decide +kernel) rfl, gBW_t 957 (by decide +kernel) rfl, gBW_t 2 (by decide +kernel) rfl, by decide, by decide, by decide +kernel⟩
theorem LX3_133 : gLv RX3 133 yX8_cutOff cX8_cutOff 6 (some .int) 2 := ⟨gBW_t 962 (by decide +kernel) rfl, gBW_t 959 (by decide +kernel) rfl, gBW_t 960 (by decide +kernel) rfl, gBW_t 961 (by decide +kernel) rfl, gBW_t 9 (by decide +kernel) rfl, by decide, by decide, by decide +kernel⟩
theorem LX8_93 : gLv RX8 93 yX2_isInner cX2_isInner 2 (some .boolean) 1 := ⟨gBW_t 477 (by decide +kernel) rfl, gBW_t 963 (by decide +kernel) rfl, gBW_t 475 (by decide +kernel) rfl, gBW_t 476 (by decide +kernel) rfl, gBW_t 2 (by decide +kernel) rfl, by decide, by decide, by decide +kernel⟩
theorem LX8_97 : gLv RX8 97 yX2_dropArrow cX2_dropArrow 3 none 1 := ⟨gBW_t 967 (by decide +kernel) rfl, gBW_t 964 (by decide +kernel) rfl, gBW_t 965 (by decide +kernel) rfl, gBW_t 966 (by decide +kernel) rfl, gBW_t 2 (by decide +kernel) rfl, by decide, by decide, by decide +kernel⟩
theorem LX2_75 : gLv RX2 75 yX2_closeWithout cX2_closeWithout 6 none 2 := ⟨gBW_t 489 (by decide +kernel) rfl, gBW_t 968 (by decide +kernel) rfl, gBW_t 487 (by decide +kernel) rfl, gBW_t 488 (by decide +kernel) rfl, gBW_t 2 (by decide +kernel) rfl, by decide, by decide, by decide +kernel⟩
theorem LX3_108 : gLs RX3 108 yX3_runSwap cX3_runSwap 2 (some .boolean) 2 := ⟨gBW_t 971 (by decide +kernel) rfl, gBW_t 969 (by decide +kernel) rfl, gBW_t 970 (by decide +kernel) rfl, gBW_t 6 (by decide +kernel) rfl, by decide, by decide, by decide +kernel⟩
theorem LX3_140 : gLv RX3 140 yX2_leadsOn cX2_leadsOn 3 (some .boolean) 1 := ⟨gBW_t 975 (by decide +kernel) rfl, gBW_t 972 (by decide +kernel) rfl, gBW_t 973 (by decide +kernel) rfl, gBW_t 974 (by decide +kernel) rfl, gBW_t 2 (by decide +kernel) rfl, by decide, by decide, by decide +kernel⟩
theorem LX3_144 : gLv RX3 144 yX2_swapAt cX2_swapAt 3 none 1 := ⟨gBW_t 979 (by decide +kernel) rfl, gBW_t 976 (by decide +kernel) rfl, gBW_t 977 (by decide +kernel) rfl, gBW_t 978 (by decide +kernel) rfl, gBW_t 2 (by decide +kernel) rfl, by decide, by decide, by decide +kernel⟩
theorem LX3_116 : gLv RX3 116 yX8_renew cX8_renew 4 (some .int) 1 := ⟨gBW_t 529 (by decide +kernel) rfl, gBW_t 980 (by decide +kernel) rfl, gBW_t 527 (by decide +kernel) rfl, gBW_t 528 (by decide +kernel) rfl, gBW_t 9 (by decide +kernel) rfl, by decide, by decide, by decide +kernel⟩
theorem LL_28 : gLv RL 28 yX10_size cX10_size 2 (some .int) 1 := ⟨gBW_t 987 (by decide +kernel) rfl, gBW_t 984 (by decide +kernel) rfl, gBW_t 985 (by decide +kernel) rfl, gBW_t 986 (by decide +kernel) rfl, gBW_t 1 (by decide +kernel) rfl, by decide, by decide, by decide +kernel⟩
theorem LX10_158 : gLv RX10 158 yX2_largestGroup cX2_largestGroup 3 (some .int) 0 := ⟨gBW_t 991 (by decide +kernel) rfl, gBW_t 988 (by decide +kernel) rfl, gBW_t 989 (by decide +kernel) rfl, gBW_t 990 (by decide +kernel) rfl, gBW_t 2 (by decide +kernel) rfl, by decide, by decide, by decide +kernel⟩
theorem LX2_83 : gLs RX2 83 yJ6_bitCount_0f7a4 cJ6_bitCount_0f7a4 1 (some .int) 1 := ⟨gBW_t 553 (by decide +kernel) rfl, gBW_t 992 (by decide +kernel) rfl, gBW_t 552 (by decide +kernel) rfl, gBW_t 23 (by decide +kernel) rfl, by decide, by decide, by decide +kernel⟩
theorem LX10_165 : gLv RX10 165 yX2_trueGroups cX2_trueGroups 3 (some .int) 0 := ⟨gBW_t 997 (by decide +kernel) rfl, gBW_t 994 (by decide +kernel) rfl, gBW_t 995 (by decide +kernel) rfl, gBW_t 996 (by decide +kernel) rfl, gBW_t 2 (by decide +kernel) rfl, by decide, by decide, by decide +kernel⟩
theorem LL_31 : gLv RL 31 yX10_task cX10_task 3 (some .int) 2 := ⟨gBW_t 1006 (by decide +kernel) rfl, gBW_t 1003 (by decide +kernel) rfl, gBW_t 1004 (by decide +kernel) rfl, gBW_t 1005 (by decide +kernel) rfl, gBW_t 1 (by decide +kernel) rfl, by decide, by decide, by decide +kernel⟩
theorem LX10_170 : gLv RX10 170 yX10_checkTask cX10_checkTask 2 none 1 := ⟨gBW_t 1010 (by decide +kernel) rfl, gBW_t 1007 (by decide +kernel) rfl, gBW_t 1009 (by decide +kernel) rfl, gBW_s 25 (by decide +kernel) rfl, gBW_t 1 (by decide +kernel) rfl, by decide, by decide, by decide +kernel⟩
theorem LX10_190 : gLs RX10 190 yJ6_bitCount_0f7a4 cJ6_bitCount_0f7a4 1 (some .int) 1 := ⟨gBW_t 553 (by decide +kernel) rfl, gBW_t 1027 (by decide +kernel) rfl, gBW_t 552 (by decide +kernel) rfl, gBW_t 23 (by decide +kernel) rfl, by decide, by decide, by decide +kernel⟩
theorem LX10_195 : gLv RX10 195 yX2_arrowsTo cX2_arrowsTo 4 (some .int) 1 := ⟨gBW_t 1031 (by decide +kernel) rfl, gBW_t 1028 (by decide +kernel) rfl, gBW_t 1029 (by decide +kernel) rfl, gBW_t 1030 (by decide +kernel) rfl, gBW_t 2 (by decide +kernel) rfl, by decide, by decide, by decide +kernel⟩
theorem LX10_201 : gLv RX10 201 yX2_reachedBy cX2_reachedBy 4 (some .int) 1 := ⟨gBW_t 834 (by decide +kernel) rfl, gBW_t 1032 (by decide +kernel) rfl, gBW_t 832 (by decide +kernel) rfl, gBW_t 833 (by decide +kernel) rfl, gBW_t 2 (by decide +kernel) rfl, by decide, by decide, by decide +kernel⟩
theorem LX10_208 : gLs RX10 208 yX10_lettersOf cX10_lettersOf 4 (some .int) 1 := ⟨gBW_t 1035 (by decide +kernel) rfl, gBW_t 1033 (by decide +kernel) rfl, gBW_t 1034 (by decide +kernel) rfl, gBW_t 1 (by decide +kernel) rfl, by decide, by decide, by decide +kernel⟩
theorem LX10_214 : gLs RX10 214 yX10_letterOf cX10_letterOf 3 (some .int) 2 := ⟨gBW_t 566 (by decide +kernel) rfl, gBW_t 1036 (by decide +kernel) rfl, gBW_t 565 (by decide +kernel) rfl, gBW_t 1 (by decide +kernel) rfl, by decide, by decide, by decide +kernel⟩
theorem LL_37 : gLv RL 37 yX10_letter cX10_letter 4 (some .int) 2 := ⟨gBW_t 1044 (by decide +kernel) rfl, gBW_t 1041 (by decide +kernel) rfl, gBW_t 1042 (by decide +kernel) rfl, gBW_t 1043 (by decide +kernel) rfl, gBW_t 1 (by decide +kernel) rfl, by decide, by decide, by decide +kernel⟩
theorem LL_40 : gLv RL 40 yX10_group cX10_group 4 (some .int) 2 := ⟨gBW_t 1051 (by decide +kernel) rfl, gBW_t 1048 (by decide +kernel) rfl, gBW_t 1049 (by decide +kernel) rfl, gBW_t 1050 (by decide +kernel) rfl, gBW_t 1 (by decide +kernel) rfl, by decide, by decide, by decide +kernel⟩
theorem LX10_218 : gLs RX10 218 yX10_checkPlace cX10_checkPlace 2 none 2 := ⟨gBW_t 1054 (by decide +kernel) rfl, gBW_t 1052 (by decide +kernel) rfl, gBW_t 1053 (by decide +kernel) rfl, gBW_t 1 (by decide +kernel) rfl, by decide, by decide, by decide +kernel⟩
theorem LX10_224 : gLv RX10 224 yX2_innerArrowsAt cX2_innerArrowsAt 4 (some .int) 1 := ⟨gBW_t 1060 (by decide +kernel) rfl, gBW_t 1057 (by decide +kernel) rfl, gBW_t 1058 (by decide +kernel) rfl, gBW_t 1059 (by decide +kernel) rfl, gBW_t 2 (by decide +kernel) rfl, by decide, by decide, by decide +kernel⟩
theorem LL_43 : gLv RL 43 yX10_arrow cX10_arrow 3 (some .int) 2 := ⟨gBW_t 1067 (by decide +kernel) rfl, gBW_t 1064 (by decide +kernel) rfl, gBW_t 1065 (by decide +kernel) rfl, gBW_t 1066 (by decide +kernel) rfl, gBW_t 1 (by decide +kernel) rfl, by decide, by decide, by decide +kernel⟩
theorem LX10_240 : gLv RX10 240 yX10_checkArrow cX10_checkArrow 2 none 1 := ⟨gBW_t 1071 (by decide +kernel) rfl, gBW_t 1068 (by decide +kernel) rfl, gBW_t 1070 (by decide +kernel) rfl, gBW_s 26 (by decide +kernel) rfl, gBW_t 1 (by decide +kernel) rfl, by decide, by decide, by decide +kernel⟩
theorem LL_46 : gLv RL 46 yX10_arrowOf cX10_arrowOf 3 (some .int) 2 := ⟨gBW_t 1080 (by decide +kernel) rfl, gBW_t 1077 (by decide +kernel) rfl, gBW_t 1078 (by decide +kernel) rfl, gBW_t 1079 (by decide +kernel) rfl, gBW_t 1 (by decide +kernel) rfl, by decide, by decide, by decide +kernel⟩
theorem LX10_255 : gLv RX10 255 yX2_numberOf cX2_numberOf 4 (some .int) 2 := ⟨gBW_t 958 (by decide +kernel) rfl, gBW_t 1081 (by decide +kernel) rfl, gBW_t 956 (by decide +kernel) rfl, gBW_t 957 (by decide +kernel) rfl, gBW_t 2 (by decide +kernel) rfl, by decide, by decide, by decide +kernel⟩
theorem LL_49 : gLv RL 49 yX10_reaches cX10_reaches 3 (some .boolean) 2 := ⟨gBW_t 1088 (by decide +kernel) rfl, gBW_t 1085 (by decide +kernel) rfl, gBW_t 1086 (by decide +kernel) rfl, gBW_t 1087 (by decide +kernel) rfl, gBW_t 1 (by decide +kernel) rfl, by decide, by decide, by decide +kernel⟩
theorem LX10_259 : gLs RX10 259 yX10_has cX10_has 2 (some .boolean) 2 := ⟨gBW_t 416 (by decide +kernel) rfl, gBW_t 1089 (by decide +kernel) rfl, gBW_t 415 (by decide +kernel) rfl, gBW_t 1 (by decide +kernel) rfl, by decide, by decide, by decide +kernel⟩
theorem LL_53 : gLv RL 53 yX10_far cX10_far 3 (some .int) 2 := ⟨gBW_t 1096 (by decide +kernel) rfl, gBW_t 1093 (by decide +kernel) rfl, gBW_t 1094 (by decide +kernel) rfl, gBW_t 1095 (by decide +kernel) rfl, gBW_t 1 (by decide +kernel) rfl, by decide, by decide, by decide +kernel⟩
theorem LX10_263 : gLv RX10 263 yX9_measure cX9_measure 7 none 2 := ⟨gBW_t 1100 (by decide +kernel) rfl, gBW_t 1097 (by decide +kernel) rfl, gBW_t 1098 (by decide +kernel) rfl, gBW_t 1099 (by decide +kernel) rfl, gBW_t 11 (by decide +kernel) rfl, by decide, by decide, by decide +kernel⟩
theorem LX9_15 : gLs RX9 15 yJ7_fill_53178 cJ7_fill_53178 4 none 2 := ⟨gBW_t 409 (by decide +kernel) rfl, gBW_t 1101 (by decide +kernel) rfl, gBW_t 408 (by decide +kernel) rfl, gBW_t 18 (by decide +kernel) rfl, by decide, by decide, by decide +kernel⟩
theorem LL_56 : gLv RL 56 yX10_on cX10_on 6 (some .int) 3 := ⟨gBW_t 1108 (by decide +kernel) rfl, gBW_t 1105 (by decide +kernel) rfl, gBW_t 1106 (by decide +kernel) rfl, gBW_t 1107 (by decide +kernel) rfl, gBW_t 1 (by decide +kernel) rfl, by decide, by decide, by decide +kernel⟩
theorem LX10_269 : gLv RX10 269 yX9_stepFrom cX9_stepFrom 4 (some .int) 2 := ⟨gBW_t 1112 (by decide +kernel) rfl, gBW_t 1109 (by decide +kernel) rfl, gBW_t 1110 (by decide +kernel) rfl, gBW_t 1111 (by decide +kernel) rfl, gBW_t 11 (by decide +kernel) rfl, by decide, by decide, by decide +kernel⟩
theorem LL_60 : gLv RL 60 yX10_trial cX10_trial 5 (some .int) 3 := ⟨gBW_t 1120 (by decide +kernel) rfl, gBW_t 1117 (by decide +kernel) rfl, gBW_t 1118 (by decide +kernel) rfl, gBW_t 1119 (by decide +kernel) rfl, gBW_t 1 (by decide +kernel) rfl, by decide, by decide, by decide +kernel⟩
theorem LX10_275 : gLv RX10 275 yX2_refusal cX2_refusal 4 (some .int) 2 := ⟨gBW_t 822 (by decide +kernel) rfl, gBW_t 1122 (by decide +kernel) rfl, gBW_t 820 (by decide +kernel) rfl, gBW_t 821 (by decide +kernel) rfl, gBW_t 2 (by decide +kernel) rfl, by decide, by decide, by decide +kernel⟩
theorem LX10_278 : gLv RX10 278 yX6_survey cX6_survey 7 none 3 := ⟨gBW_t 830 (by decide +kernel) rfl, gBW_t 1123 (by decide +kernel) rfl, gBW_t 828 (by decide +kernel) rfl, gBW_t 829 (by decide +kernel) rfl, gBW_t 7 (by decide +kernel) rfl, by decide, by decide, by decide +kernel⟩
theorem LX10_282 : gLv RX10 282 yX6_affected cX6_affected 1 (some .int) 0 := ⟨gBW_t 844 (by decide +kernel) rfl, gBW_t 1124 (by decide +kernel) rfl, gBW_t 842 (by decide +kernel) rfl, gBW_t 843 (by decide +kernel) rfl, gBW_t 7 (by decide +kernel) rfl, by decide, by decide, by decide +kernel⟩
theorem LX10_294 : gLv RX10 294 yX6_arrange cX6_arrange 4 (some .int) 2 := ⟨gBW_t 848 (by decide +kernel) rfl, gBW_t 1125 (by decide +kernel) rfl, gBW_t 846 (by decide +kernel) rfl, gBW_t 847 (by decide +kernel) rfl, gBW_t 7 (by decide +kernel) rfl, by decide, by decide, by decide +kernel⟩
theorem LL_63 : gLv RL 63 yX10_why cX10_why 5 (some .int) 3 := ⟨gBW_t 1132 (by decide +kernel) rfl, gBW_t 1129 (by decide +kernel) rfl, gBW_t 1130 (by decide +kernel) rfl, gBW_t 1131 (by decide +kernel) rfl, gBW_t 1 (by decide +kernel) rfl, by decide, by decide, by decide +kernel⟩
theorem LL_66 : gLv RL 66 yX10_bestMode cX10_bestMode 7 (some .int) 2 := ⟨gBW_t 1140 (by decide +kernel) rfl, gBW_t 1137 (by decide +kernel) rfl, gBW_t 1138 (by decide +kernel) rfl, gBW_t 1139 (by decide +kernel) rfl, gBW_t 1 (by decide +kernel) rfl, by decide, by decide, by decide +kernel⟩
theorem LL_69 : gLv RL 69 yX10_leastPlace cX10_leastPlace 5 (some .int) 1 := ⟨gBW_t 1147 (by decide +kernel) rfl, gBW_t 1144 (by decide +kernel) rfl, gBW_t 1145 (by decide +kernel) rfl, gBW_t 1146 (by decide +kernel) rfl, gBW_t 1 (by decide +kernel) rfl, by decide, by decide, by decide +kernel⟩
theorem LL_72 : gLv RL 72 yX10_mostPlace cX10_mostPlace 5 (some .int) 1 := ⟨gBW_t 1155 (by decide +kernel) rfl, gBW_t 1152 (by decide +kernel) rfl, gBW_t 1153 (by decide +kernel) rfl, gBW_t 1154 (by decide +kernel) rfl, gBW_t 1 (by decide +kernel) rfl, by decide, by decide, by decide +kernel⟩
theorem LL_75 : gLv RL 75 yX10_fresh cX10_fresh 2 (some .int) 1 := ⟨gBW_t 1165 (by decide +kernel) rfl, gBW_t 1162 (by decide +kernel) rfl, gBW_t 1163 (by decide +kernel) rfl, gBW_t 1164 (by decide +kernel) rfl, gBW_t 1 (by decide +kernel) rfl, by decide, by decide, by decide +kernel⟩
theorem LL_78 : gLv RL 78 yX10_account cX10_account 2 (some .long) 1 := ⟨gBW_t 1172 (by decide +kernel) rfl, gBW_t 1169 (by decide +kernel) rfl, gBW_t 1170 (by decide +kernel) rfl, gBW_t 1171 (by decide +kernel) rfl, gBW_t 1 (by decide +kernel) rfl, by decide, by decide, by decide +kernel⟩
theorem LL_82 : gLv RL 82 yX10_make cX10_make 4 (some .int) 1 := ⟨gBW_t 1180 (by decide +kernel) rfl, gBW_t 1177 (by decide +kernel) rfl, gBW_t 1178 (by decide +kernel) rfl, gBW_t 1179 (by decide +kernel) rfl, gBW_t 1 (by decide +kernel) rfl, by decide, by decide, by decide +kernel⟩
theorem LX10_342 : gLs RX10 342 yX10_checkHours cX10_checkHours 1 none 1 := ⟨gBW_t 1183 (by decide +kernel) rfl, gBW_t 1181 (by decide +kernel) rfl, gBW_t 1182 (by decide +kernel) rfl, gBW_t 1 (by decide +kernel) rfl, by decide, by decide, by decide +kernel⟩
theorem LX10_345 : gLv RX10 345 yX5_wholeName cX5_wholeName 2 (some .long) 0 := ⟨gBW_t 1188 (by decide +kernel) rfl, gBW_t 1185 (by decide +kernel) rfl, gBW_t 1186 (by decide +kernel) rfl, gBW_t 1187 (by decide +kernel) rfl, gBW_t 3 (by decide +kernel) rfl, by decide, by decide, by decide +kernel⟩
theorem LX10_349 : gLv RX10 349 yX2_taskNamed cX2_taskNamed 4 (some .int) 1 := ⟨gBW_t 798 (by decide +kernel) rfl, gBW_t 1189 (by decide +kernel) rfl, gBW_t 796 (by decide +kernel) rfl, gBW_t 797 (by decide +kernel) rfl, gBW_t 2 (by decide +kernel) rfl, by decide, by decide, by decide +kernel⟩
theorem LL_85 : gLv RL 85 yX10_add cX10_add 4 (some .int) 2 := ⟨gBW_t 1196 (by decide +kernel) rfl, gBW_t 1193 (by decide +kernel) rfl, gBW_t 1194 (by decide +kernel) rfl, gBW_t 1195 (by decide +kernel) rfl, gBW_t 1 (by decide +kernel) rfl, by decide, by decide, by decide +kernel⟩
theorem LX10_352 : gLv RX10 352 yX6_bring cX6_bring 5 (some .int) 3 := ⟨gBW_t 826 (by decide +kernel) rfl, gBW_t 1197 (by decide +kernel) rfl, gBW_t 824 (by decide +kernel) rfl, gBW_t 825 (by decide +kernel) rfl, gBW_t 7 (by decide +kernel) rfl, by decide, by decide, by decide +kernel⟩
theorem LL_88 : gLv RL 88 yX10_cut cX10_cut 2 (some .int) 1 := ⟨gBW_t 1204 (by decide +kernel) rfl, gBW_t 1201 (by decide +kernel) rfl, gBW_t 1202 (by decide +kernel) rfl, gBW_t 1203 (by decide +kernel) rfl, gBW_t 1 (by decide +kernel) rfl, by decide, by decide, by decide +kernel⟩
theorem LX10_356 : gLv RX10 356 yX8_cutOff cX8_cutOff 6 (some .int) 2 := ⟨gBW_t 962 (by decide +kernel) rfl, gBW_t 1205 (by decide +kernel) rfl, gBW_t 960 (by decide +kernel) rfl, gBW_t 961 (by decide +kernel) rfl, gBW_t 9 (by decide +kernel) rfl, by decide, by decide, by decide +kernel⟩
theorem LL_91 : gLv RL 91 yX10_swap cX10_swap 2 (some .int) 1 := ⟨gBW_t 1212 (by decide +kernel) rfl, gBW_t 1209 (by decide +kernel) rfl, gBW_t 1210 (by decide +kernel) rfl, gBW_t 1211 (by decide +kernel) rfl, gBW_t 1 (by decide +kernel) rfl, by decide, by decide, by decide +kernel⟩
theorem LX10_359 : gLv RX10 359 yX2_leadsOn cX2_leadsOn 3 (some .boolean) 1 := ⟨gBW_t 975 (by decide +kernel) rfl, gBW_t 1213 (by decide +kernel) rfl, gBW_t 973 (by decide +kernel) rfl, gBW_t 974 (by decide +kernel) rfl, gBW_t 2 (by decide +kernel) rfl, by decide, by decide, by decide +kernel⟩
theorem LX10_362 : gLv RX10 362 yX2_swapAt cX2_swapAt 3 none 1 := ⟨gBW_t 979 (by decide +kernel) rfl, gBW_t 1214 (by decide +kernel) rfl, gBW_t 977 (by decide +kernel) rfl, gBW_t 978 (by decide +kernel) rfl, gBW_t 2 (by decide +kernel) rfl, by decide, by decide, by decide +kernel⟩
theorem LL_94 : gLv RL 94 yX10_setHours cX10_setHours 4 (some .int) 2 := ⟨gBW_t 1221 (by decide +kernel) rfl, gBW_t 1218 (by decide +kernel) rfl, gBW_t 1219 (by decide +kernel) rfl, gBW_t 1220 (by decide +kernel) rfl, gBW_t 1 (by decide +kernel) rfl, by decide, by decide, by decide +kernel⟩
theorem LL_97 : gLv RL 97 yX10_set cX10_set 4 (some .int) 2 := ⟨gBW_t 1228 (by decide +kernel) rfl, gBW_t 1225 (by decide +kernel) rfl, gBW_t 1226 (by decide +kernel) rfl, gBW_t 1227 (by decide +kernel) rfl, gBW_t 1 (by decide +kernel) rfl, by decide, by decide, by decide +kernel⟩
theorem LL_100 : gLv RL 100 yX10_writeArrows cX10_writeArrows 3 (some .int) 1 := ⟨gBW_t 1236 (by decide +kernel) rfl, gBW_t 1233 (by decide +kernel) rfl, gBW_t 1234 (by decide +kernel) rfl, gBW_t 1235 (by decide +kernel) rfl, gBW_t 1 (by decide +kernel) rfl, by decide, by decide, by decide +kernel⟩
theorem LX10_377 : gLv RX10 377 yX4_putName cX4_putName 5 none 1 := ⟨gBW_t 563 (by decide +kernel) rfl, gBW_t 1237 (by decide +kernel) rfl, gBW_t 561 (by decide +kernel) rfl, gBW_t 562 (by decide +kernel) rfl, gBW_t 4 (by decide +kernel) rfl, by decide, by decide, by decide +kernel⟩
theorem LL_103 : gLv RL 103 yX10_restore cX10_restore 1 (some .int) 0 := ⟨gBW_t 1244 (by decide +kernel) rfl, gBW_t 1241 (by decide +kernel) rfl, gBW_t 1242 (by decide +kernel) rfl, gBW_t 1243 (by decide +kernel) rfl, gBW_t 1 (by decide +kernel) rfl, by decide, by decide, by decide +kernel⟩
theorem LX11_68 : gLv RX11 68 yX11_joins cX11_joins 6 (some .int) 3 := ⟨gBW_t 1255 (by decide +kernel) rfl, gBW_t 1252 (by decide +kernel) rfl, gBW_t 1254 (by decide +kernel) rfl, gBW_s 27 (by decide +kernel) rfl, gBW_t 12 (by decide +kernel) rfl, by decide, by decide, by decide +kernel⟩
theorem LX11_78 : gLv RX11 78 yX11_puts cX11_puts 4 none 3 := ⟨gBW_t 1259 (by decide +kernel) rfl, gBW_t 1256 (by decide +kernel) rfl, gBW_t 1258 (by decide +kernel) rfl, gBW_s 28 (by decide +kernel) rfl, gBW_t 12 (by decide +kernel) rfl, by decide, by decide, by decide +kernel⟩
theorem LL_116 : gLv RL 116 yX11_thrown cX11_thrown 1 (some .int) 0 := ⟨gBW_t 1387 (by decide +kernel) rfl, gBW_t 1384 (by decide +kernel) rfl, gBW_t 1385 (by decide +kernel) rfl, gBW_t 1386 (by decide +kernel) rfl, gBW_t 12 (by decide +kernel) rfl, by decide, by decide, by decide +kernel⟩
theorem LL_115 : gLv RL 115 yX11_append cX11_append 6 (some .int) 5 := ⟨gBW_t 1391 (by decide +kernel) rfl, gBW_t 1388 (by decide +kernel) rfl, gBW_t 1389 (by decide +kernel) rfl, gBW_t 1390 (by decide +kernel) rfl, gBW_t 12 (by decide +kernel) rfl, by decide, by decide, by decide +kernel⟩
theorem LX11_212 : gLv RX11 212 yX11_wrong cX11_wrong 2 (some .boolean) 1 := ⟨gBW_t 1395 (by decide +kernel) rfl, gBW_t 1392 (by decide +kernel) rfl, gBW_t 1394 (by decide +kernel) rfl, gBW_s 29 (by decide +kernel) rfl, gBW_t 12 (by decide +kernel) rfl, by decide, by decide, by decide +kernel⟩
theorem LX11_216 : gLv RX11 216 yX11_four cX11_four 3 none 1 := ⟨gBW_t 1399 (by decide +kernel) rfl, gBW_t 1396 (by decide +kernel) rfl, gBW_t 1398 (by decide +kernel) rfl, gBW_s 30 (by decide +kernel) rfl, gBW_t 12 (by decide +kernel) rfl, by decide, by decide, by decide +kernel⟩
theorem LL_122 : gLv RL 122 yX11_truncate cX11_truncate 2 (some .int) 1 := ⟨gBW_t 1403 (by decide +kernel) rfl, gBW_t 1400 (by decide +kernel) rfl, gBW_t 1401 (by decide +kernel) rfl, gBW_t 1402 (by decide +kernel) rfl, gBW_t 12 (by decide +kernel) rfl, by decide, by decide, by decide +kernel⟩
theorem LX11_172 : gLs RX11 172 yX11_in cX11_in 3 (some .boolean) 3 := ⟨gBW_t 1406 (by decide +kernel) rfl, gBW_t 1404 (by decide +kernel) rfl, gBW_t 1405 (by decide +kernel) rfl, gBW_t 12 (by decide +kernel) rfl, by decide, by decide, by decide +kernel⟩
theorem LL_133 : gLv RL 133 yX11_errorCode cX11_errorCode 1 (some .int) 0 := ⟨gBW_t 1410 (by decide +kernel) rfl, gBW_t 1407 (by decide +kernel) rfl, gBW_t 1408 (by decide +kernel) rfl, gBW_t 1409 (by decide +kernel) rfl, gBW_t 12 (by decide +kernel) rfl, by decide, by decide, by decide +kernel⟩
theorem LL_137 : gLv RL 137 yX11_errorPosition cX11_errorPosition 1 (some .int) 0 := ⟨gBW_t 1414 (by decide +kernel) rfl, gBW_t 1411 (by decide +kernel) rfl, gBW_t 1412 (by decide +kernel) rfl, gBW_t 1413 (by decide +kernel) rfl, gBW_t 12 (by decide +kernel) rfl, by decide, by decide, by decide +kernel⟩
theorem LL_126 : gLv RL 126 yX11_readText cX11_readText 3 (some .int) 0 := ⟨gBW_t 1418 (by decide +kernel) rfl, gBW_t 1415 (by decide +kernel) rfl, gBW_t 1416 (by decide +kernel) rfl, gBW_t 1417 (by decide +kernel) rfl, gBW_t 12 (by decide +kernel) rfl, by decide, by decide, by decide +kernel⟩
theorem LX11_312 : gLv RX11 312 yX11_keepsBefore cX11_keepsBefore 2 none 0 := ⟨gBW_t 1422 (by decide +kernel) rfl, gBW_t 1419 (by decide +kernel) rfl, gBW_t 1421 (by decide +kernel) rfl, gBW_s 31 (by decide +kernel) rfl, gBW_t 12 (by decide +kernel) rfl, by decide, by decide, by decide +kernel⟩
theorem LX11_315 : gLv RX11 315 yX11_starts cX11_starts 1 none 0 := ⟨gBW_t 1426 (by decide +kernel) rfl, gBW_t 1423 (by decide +kernel) rfl, gBW_t 1425 (by decide +kernel) rfl, gBW_s 32 (by decide +kernel) rfl, gBW_t 12 (by decide +kernel) rfl, by decide, by decide, by decide +kernel⟩
theorem LX11_260 : gLv RX11 260 yX11_goesOn cX11_goesOn 1 none 0 := ⟨gBW_t 1430 (by decide +kernel) rfl, gBW_t 1427 (by decide +kernel) rfl, gBW_t 1429 (by decide +kernel) rfl, gBW_s 33 (by decide +kernel) rfl, gBW_t 12 (by decide +kernel) rfl, by decide, by decide, by decide +kernel⟩
theorem LX11_219 : gLv RX11 219 yX11_at cX11_at 2 (some .int) 1 := ⟨gBW_t 1434 (by decide +kernel) rfl, gBW_t 1431 (by decide +kernel) rfl, gBW_t 1433 (by decide +kernel) rfl, gBW_s 34 (by decide +kernel) rfl, gBW_t 12 (by decide +kernel) rfl, by decide, by decide, by decide +kernel⟩
theorem LX11_234 : gLv RX11 234 yX11_isLetter cX11_isLetter 2 (some .boolean) 1 := ⟨gBW_t 1438 (by decide +kernel) rfl, gBW_t 1435 (by decide +kernel) rfl, gBW_t 1437 (by decide +kernel) rfl, gBW_s 35 (by decide +kernel) rfl, gBW_t 12 (by decide +kernel) rfl, by decide, by decide, by decide +kernel⟩
theorem LX11_237 : gLv RX11 237 yX11_isDigit cX11_isDigit 2 (some .boolean) 1 := ⟨gBW_t 1442 (by decide +kernel) rfl, gBW_t 1439 (by decide +kernel) rfl, gBW_t 1441 (by decide +kernel) rfl, gBW_s 36 (by decide +kernel) rfl, gBW_t 12 (by decide +kernel) rfl, by decide, by decide, by decide +kernel⟩
theorem LX11_318 : gLv RX11 318 yX11_readsAll cX11_readsAll 1 (some .boolean) 0 := ⟨gBW_t 1446 (by decide +kernel) rfl, gBW_t 1443 (by decide +kernel) rfl, gBW_t 1445 (by decide +kernel) rfl, gBW_s 37 (by decide +kernel) rfl, gBW_t 12 (by decide +kernel) rfl, by decide, by decide, by decide +kernel⟩
theorem LX11_290 : gLv RX11 290 yX11_says cX11_says 3 (some .boolean) 1 := ⟨gBW_t 1451 (by decide +kernel) rfl, gBW_t 1448 (by decide +kernel) rfl, gBW_t 1450 (by decide +kernel) rfl, gBW_s 38 (by decide +kernel) rfl, gBW_t 12 (by decide +kernel) rfl, by decide, by decide, by decide +kernel⟩
theorem LX11_246 : gLv RX11 246 yJ0_length_8abf5 cJ0_length_8abf5 1 (some .int) 0 := ⟨gBW_t 736 (by decide +kernel) rfl, gBW_t 1452 (by decide +kernel) rfl, gBW_t 734 (by decide +kernel) rfl, gBW_t 735 (by decide +kernel) rfl, gBW_t 19 (by decide +kernel) rfl, by decide, by decide, by decide +kernel⟩
theorem LX11_250 : gLv RX11 250 yJ0_charAt_5068e cJ0_charAt_5068e 2 (some .char) 1 := ⟨gBW_t 746 (by decide +kernel) rfl, gBW_t 1453 (by decide +kernel) rfl, gBW_t 744 (by decide +kernel) rfl, gBW_t 745 (by decide +kernel) rfl, gBW_t 19 (by decide +kernel) rfl, by decide, by decide, by decide +kernel⟩
theorem LX11_254 : gLv RX11 254 yX11_fails cX11_fails 2 (some .boolean) 1 := ⟨gBW_t 1457 (by decide +kernel) rfl, gBW_t 1454 (by decide +kernel) rfl, gBW_t 1456 (by decide +kernel) rfl, gBW_s 39 (by decide +kernel) rfl, gBW_t 12 (by decide +kernel) rfl, by decide, by decide, by decide +kernel⟩
theorem LX11_309 : gLv RX11 309 yX11_readsStatement cX11_readsStatement 1 (some .boolean) 0 := ⟨gBW_t 1461 (by decide +kernel) rfl, gBW_t 1458 (by decide +kernel) rfl, gBW_t 1460 (by decide +kernel) rfl, gBW_s 40 (by decide +kernel) rfl, gBW_t 12 (by decide +kernel) rfl, by decide, by decide, by decide +kernel⟩
theorem LX11_294 : gLv RX11 294 yX11_readsTask cX11_readsTask 4 (some .boolean) 0 := ⟨gBW_t 1465 (by decide +kernel) rfl, gBW_t 1462 (by decide +kernel) rfl, gBW_t 1464 (by decide +kernel) rfl, gBW_s 41 (by decide +kernel) rfl, gBW_t 12 (by decide +kernel) rfl, by decide, by decide, by decide +kernel⟩
theorem LX11_263 : gLv RX11 263 yX11_isNameHere cX11_isNameHere 1 (some .boolean) 0 := ⟨gBW_t 1469 (by decide +kernel) rfl, gBW_t 1466 (by decide +kernel) rfl, gBW_t 1468 (by decide +kernel) rfl, gBW_s 42 (by decide +kernel) rfl, gBW_t 12 (by decide +kernel) rfl, by decide, by decide, by decide +kernel⟩
theorem LX11_267 : gLv RX11 267 yX11_named cX11_named 6 (some .int) 2 := ⟨gBW_t 1473 (by decide +kernel) rfl, gBW_t 1470 (by decide +kernel) rfl, gBW_t 1472 (by decide +kernel) rfl, gBW_s 43 (by decide +kernel) rfl, gBW_t 12 (by decide +kernel) rfl, by decide, by decide, by decide +kernel⟩
theorem LX11_82 : gLv RX11 82 yX11_of cX11_of 3 (some .int) 2 := ⟨gBW_t 1477 (by decide +kernel) rfl, gBW_t 1474 (by decide +kernel) rfl, gBW_t 1476 (by decide +kernel) rfl, gBW_s 44 (by decide +kernel) rfl, gBW_t 12 (by decide +kernel) rfl, by decide, by decide, by decide +kernel⟩
theorem LX11_276 : gLv RX11 276 yX11_takes cX11_takes 3 (some .boolean) 2 := ⟨gBW_t 1481 (by decide +kernel) rfl, gBW_t 1478 (by decide +kernel) rfl, gBW_t 1480 (by decide +kernel) rfl, gBW_s 45 (by decide +kernel) rfl, gBW_t 12 (by decide +kernel) rfl, by decide, by decide, by decide +kernel⟩
theorem LX11_299 : gLv RX11 299 yX11_readsArrow cX11_readsArrow 2 (some .boolean) 0 := ⟨gBW_t 1486 (by decide +kernel) rfl, gBW_t 1483 (by decide +kernel) rfl, gBW_t 1485 (by decide +kernel) rfl, gBW_s 46 (by decide +kernel) rfl, gBW_t 12 (by decide +kernel) rfl, by decide, by decide, by decide +kernel⟩
theorem LX11_279 : gLv RX11 279 yX11_takesTask cX11_takesTask 1 (some .boolean) 0 := ⟨gBW_t 1490 (by decide +kernel) rfl, gBW_t 1487 (by decide +kernel) rfl, gBW_t 1489 (by decide +kernel) rfl, gBW_s 47 (by decide +kernel) rfl, gBW_t 12 (by decide +kernel) rfl, by decide, by decide, by decide +kernel⟩
theorem LX11_270 : gLv RX11 270 yX11_seesTask cX11_seesTask 1 (some .boolean) 0 := ⟨gBW_t 1494 (by decide +kernel) rfl, gBW_t 1491 (by decide +kernel) rfl, gBW_t 1493 (by decide +kernel) rfl, gBW_s 48 (by decide +kernel) rfl, gBW_t 12 (by decide +kernel) rfl, by decide, by decide, by decide +kernel⟩
theorem LX11_282 : gLv RX11 282 yX11_comes cX11_comes 5 (some .int) 2 := ⟨gBW_t 1498 (by decide +kernel) rfl, gBW_t 1495 (by decide +kernel) rfl, gBW_t 1497 (by decide +kernel) rfl, gBW_s 49 (by decide +kernel) rfl, gBW_t 12 (by decide +kernel) rfl, by decide, by decide, by decide +kernel⟩
theorem LX11_182 : gLv RX11 182 yX11_reason cX11_reason 3 (some .int) 2 := ⟨gBW_t 1502 (by decide +kernel) rfl, gBW_t 1499 (by decide +kernel) rfl, gBW_t 1501 (by decide +kernel) rfl, gBW_s 50 (by decide +kernel) rfl, gBW_t 12 (by decide +kernel) rfl, by decide, by decide, by decide +kernel⟩
theorem LX11_123 : gLv RX11 123 yX11_arrowFrom cX11_arrowFrom 4 (some .int) 2 := ⟨gBW_t 1506 (by decide +kernel) rfl, gBW_t 1503 (by decide +kernel) rfl, gBW_t 1505 (by decide +kernel) rfl, gBW_s 51 (by decide +kernel) rfl, gBW_t 12 (by decide +kernel) rfl, by decide, by decide, by decide +kernel⟩
theorem LX11_126 : gLv RX11 126 yX11_needsRepair cX11_needsRepair 3 (some .boolean) 2 := ⟨gBW_t 1510 (by decide +kernel) rfl, gBW_t 1507 (by decide +kernel) rfl, gBW_t 1509 (by decide +kernel) rfl, gBW_s 52 (by decide +kernel) rfl, gBW_t 12 (by decide +kernel) rfl, by decide, by decide, by decide +kernel⟩
theorem LX11_101 : gLv RX11 101 yX11_placeOf cX11_placeOf 2 (some .int) 1 := ⟨gBW_t 1514 (by decide +kernel) rfl, gBW_t 1511 (by decide +kernel) rfl, gBW_t 1513 (by decide +kernel) rfl, gBW_s 53 (by decide +kernel) rfl, gBW_t 12 (by decide +kernel) rfl, by decide, by decide, by decide +kernel⟩
theorem LX11_86 : gLv RX11 86 yX11_placeOfHead cX11_placeOfHead 3 (some .int) 1 := ⟨gBW_t 1518 (by decide +kernel) rfl, gBW_t 1515 (by decide +kernel) rfl, gBW_t 1517 (by decide +kernel) rfl, gBW_s 54 (by decide +kernel) rfl, gBW_t 12 (by decide +kernel) rfl, by decide, by decide, by decide +kernel⟩
theorem LX11_129 : gLv RX11 129 yX11_laysPart cX11_laysPart 5 none 2 := ⟨gBW_t 1522 (by decide +kernel) rfl, gBW_t 1519 (by decide +kernel) rfl, gBW_t 1521 (by decide +kernel) rfl, gBW_s 55 (by decide +kernel) rfl, gBW_t 12 (by decide +kernel) rfl, by decide, by decide, by decide +kernel⟩
theorem LX11_104 : gLv RX11 104 yX11_laysReach cX11_laysReach 4 none 1 := ⟨gBW_t 1526 (by decide +kernel) rfl, gBW_t 1523 (by decide +kernel) rfl, gBW_t 1525 (by decide +kernel) rfl, gBW_s 56 (by decide +kernel) rfl, gBW_t 12 (by decide +kernel) rfl, by decide, by decide, by decide +kernel⟩
theorem LX11_93 : gLs RX11 93 yX11_has cX11_has 2 (some .boolean) 2 := ⟨gBW_t 1529 (by decide +kernel) rfl, gBW_t 1527 (by decide +kernel) rfl, gBW_t 1528 (by decide +kernel) rfl, gBW_t 12 (by decide +kernel) rfl, by decide, by decide, by decide +kernel⟩
theorem LX11_97 : gLv RX11 97 yX11_isInner cX11_isInner 2 (some .boolean) 1 := ⟨gBW_t 1533 (by decide +kernel) rfl, gBW_t 1530 (by decide +kernel) rfl, gBW_t 1532 (by decide +kernel) rfl, gBW_s 57 (by decide +kernel) rfl, gBW_t 12 (by decide +kernel) rfl, by decide, by decide, by decide +kernel⟩
theorem LX11_185 : gLv RX11 185 yX11_counts cX11_counts 3 none 2 := ⟨gBW_t 1537 (by decide +kernel) rfl, gBW_t 1534 (by decide +kernel) rfl, gBW_t 1536 (by decide +kernel) rfl, gBW_s 58 (by decide +kernel) rfl, gBW_t 12 (by decide +kernel) rfl, by decide, by decide, by decide +kernel⟩
theorem LX11_139 : gLs RX11 139 yX11_many cX11_many 3 (some .int) 1 := ⟨gBW_t 1540 (by decide +kernel) rfl, gBW_t 1538 (by decide +kernel) rfl, gBW_t 1539 (by decide +kernel) rfl, gBW_t 12 (by decide +kernel) rfl, by decide, by decide, by decide +kernel⟩
theorem LX11_188 : gLv RX11 188 yX11_repairs cX11_repairs 6 (some .int) 0 := ⟨gBW_t 1544 (by decide +kernel) rfl, gBW_t 1541 (by decide +kernel) rfl, gBW_t 1543 (by decide +kernel) rfl, gBW_s 59 (by decide +kernel) rfl, gBW_t 12 (by decide +kernel) rfl, by decide, by decide, by decide +kernel⟩
theorem LX11_166 : gLv RX11 166 yX11_leastHead cX11_leastHead 4 (some .int) 1 := ⟨gBW_t 1548 (by decide +kernel) rfl, gBW_t 1545 (by decide +kernel) rfl, gBW_t 1547 (by decide +kernel) rfl, gBW_s 60 (by decide +kernel) rfl, gBW_t 12 (by decide +kernel) rfl, by decide, by decide, by decide +kernel⟩
theorem LX11_169 : gLv RX11 169 yX11_ordersPart cX11_ordersPart 1 none 0 := ⟨gBW_t 1553 (by decide +kernel) rfl, gBW_t 1550 (by decide +kernel) rfl, gBW_t 1552 (by decide +kernel) rfl, gBW_s 61 (by decide +kernel) rfl, gBW_t 12 (by decide +kernel) rfl, by decide, by decide, by decide +kernel⟩
theorem LX11_148 : gLv RX11 148 yX11_deals cX11_deals 4 none 0 := ⟨gBW_t 1557 (by decide +kernel) rfl, gBW_t 1554 (by decide +kernel) rfl, gBW_t 1556 (by decide +kernel) rfl, gBW_s 62 (by decide +kernel) rfl, gBW_t 12 (by decide +kernel) rfl, by decide, by decide, by decide +kernel⟩
theorem LX11_136 : gLv RX11 136 yX11_adds cX11_adds 2 none 1 := ⟨gBW_t 1561 (by decide +kernel) rfl, gBW_t 1558 (by decide +kernel) rfl, gBW_t 1560 (by decide +kernel) rfl, gBW_s 63 (by decide +kernel) rfl, gBW_t 12 (by decide +kernel) rfl, by decide, by decide, by decide +kernel⟩
theorem LX11_145 : gLv RX11 145 yX11_dealt cX11_dealt 6 (some .int) 1 := ⟨gBW_t 1565 (by decide +kernel) rfl, gBW_t 1562 (by decide +kernel) rfl, gBW_t 1564 (by decide +kernel) rfl, gBW_s 64 (by decide +kernel) rfl, gBW_t 12 (by decide +kernel) rfl, by decide, by decide, by decide +kernel⟩
theorem LX11_142 : gLv RX11 142 yX11_nth cX11_nth 5 (some .int) 2 := ⟨gBW_t 1569 (by decide +kernel) rfl, gBW_t 1566 (by decide +kernel) rfl, gBW_t 1568 (by decide +kernel) rfl, gBW_s 65 (by decide +kernel) rfl, gBW_t 12 (by decide +kernel) rfl, by decide, by decide, by decide +kernel⟩
theorem LX11_151 : gLv RX11 151 yX11_affected cX11_affected 3 (some .int) 0 := ⟨gBW_t 1573 (by decide +kernel) rfl, gBW_t 1570 (by decide +kernel) rfl, gBW_t 1572 (by decide +kernel) rfl, gBW_s 66 (by decide +kernel) rfl, gBW_t 12 (by decide +kernel) rfl, by decide, by decide, by decide +kernel⟩
theorem LX11_155 : gLv RX11 155 yX11_addsAll cX11_addsAll 3 none 1 := ⟨gBW_t 1577 (by decide +kernel) rfl, gBW_t 1574 (by decide +kernel) rfl, gBW_t 1576 (by decide +kernel) rfl, gBW_s 67 (by decide +kernel) rfl, gBW_t 12 (by decide +kernel) rfl, by decide, by decide, by decide +kernel⟩
theorem LX11_158 : gLv RX11 158 yX11_addsJoined cX11_addsJoined 1 none 0 := ⟨gBW_t 1581 (by decide +kernel) rfl, gBW_t 1578 (by decide +kernel) rfl, gBW_t 1580 (by decide +kernel) rfl, gBW_s 68 (by decide +kernel) rfl, gBW_t 12 (by decide +kernel) rfl, by decide, by decide, by decide +kernel⟩
theorem LX11_176 : gLv RX11 176 yX11_movedFrom cX11_movedFrom 6 (some .int) 0 := ⟨gBW_t 1585 (by decide +kernel) rfl, gBW_t 1582 (by decide +kernel) rfl, gBW_t 1584 (by decide +kernel) rfl, gBW_s 69 (by decide +kernel) rfl, gBW_t 12 (by decide +kernel) rfl, by decide, by decide, by decide +kernel⟩
theorem LX11_179 : gLv RX11 179 yX11_membersAt cX11_membersAt 2 (some .int) 1 := ⟨gBW_t 1589 (by decide +kernel) rfl, gBW_t 1586 (by decide +kernel) rfl, gBW_t 1588 (by decide +kernel) rfl, gBW_s 70 (by decide +kernel) rfl, gBW_t 12 (by decide +kernel) rfl, by decide, by decide, by decide +kernel⟩
theorem LX11_90 : gLv RX11 90 yX11_members cX11_members 4 (some .int) 1 := ⟨gBW_t 1593 (by decide +kernel) rfl, gBW_t 1590 (by decide +kernel) rfl, gBW_t 1592 (by decide +kernel) rfl, gBW_s 71 (by decide +kernel) rfl, gBW_t 12 (by decide +kernel) rfl, by decide, by decide, by decide +kernel⟩
theorem LX11_304 : gLv RX11 304 yX11_readsOnce cX11_readsOnce 4 (some .boolean) 3 := ⟨gBW_t 1598 (by decide +kernel) rfl, gBW_t 1595 (by decide +kernel) rfl, gBW_t 1597 (by decide +kernel) rfl, gBW_s 72 (by decide +kernel) rfl, gBW_t 12 (by decide +kernel) rfl, by decide, by decide, by decide +kernel⟩
theorem LX11_321 : gLv RX11 321 yX11_ends cX11_ends 1 (some .boolean) 0 := ⟨gBW_t 1603 (by decide +kernel) rfl, gBW_t 1600 (by decide +kernel) rfl, gBW_t 1602 (by decide +kernel) rfl, gBW_s 73 (by decide +kernel) rfl, gBW_t 12 (by decide +kernel) rfl, by decide, by decide, by decide +kernel⟩
theorem LX11_324 : gLv RX11 324 yX11_laysBefore cX11_laysBefore 2 none 0 := ⟨gBW_t 1607 (by decide +kernel) rfl, gBW_t 1604 (by decide +kernel) rfl, gBW_t 1606 (by decide +kernel) rfl, gBW_s 74 (by decide +kernel) rfl, gBW_t 12 (by decide +kernel) rfl, by decide, by decide, by decide +kernel⟩
theorem LL_129 : gLv RL 129 yX11_runOrders cX11_runOrders 3 (some .int) 0 := ⟨gBW_t 1611 (by decide +kernel) rfl, gBW_t 1608 (by decide +kernel) rfl, gBW_t 1609 (by decide +kernel) rfl, gBW_t 1610 (by decide +kernel) rfl, gBW_t 12 (by decide +kernel) rfl, by decide, by decide, by decide +kernel⟩
theorem LX11_365 : gLv RX11 365 yX11_readsOrders cX11_readsOrders 1 (some .boolean) 0 := ⟨gBW_t 1615 (by decide +kernel) rfl, gBW_t 1612 (by decide +kernel) rfl, gBW_t 1614 (by decide +kernel) rfl, gBW_s 75 (by decide +kernel) rfl, gBW_t 12 (by decide +kernel) rfl, by decide, by decide, by decide +kernel⟩
theorem LX11_347 : gLv RX11 347 yX11_readsOrder cX11_readsOrder 2 (some .boolean) 0 := ⟨gBW_t 1619 (by decide +kernel) rfl, gBW_t 1616 (by decide +kernel) rfl, gBW_t 1618 (by decide +kernel) rfl, gBW_s 76 (by decide +kernel) rfl, gBW_t 12 (by decide +kernel) rfl, by decide, by decide, by decide +kernel⟩
theorem LX11_335 : gLv RX11 335 yX11_orderHere cX11_orderHere 1 (some .int) 0 := ⟨gBW_t 1623 (by decide +kernel) rfl, gBW_t 1620 (by decide +kernel) rfl, gBW_t 1622 (by decide +kernel) rfl, gBW_s 77 (by decide +kernel) rfl, gBW_t 12 (by decide +kernel) rfl, by decide, by decide, by decide +kernel⟩
theorem LX11_341 : gLv RX11 341 yX11_readsFirst cX11_readsFirst 2 (some .boolean) 1 := ⟨gBW_t 1631 (by decide +kernel) rfl, gBW_t 1628 (by decide +kernel) rfl, gBW_t 1630 (by decide +kernel) rfl, gBW_s 78 (by decide +kernel) rfl, gBW_t 12 (by decide +kernel) rfl, by decide, by decide, by decide +kernel⟩
theorem LX11_344 : gLv RX11 344 yX11_readsSecond cX11_readsSecond 2 (some .boolean) 1 := ⟨gBW_t 1635 (by decide +kernel) rfl, gBW_t 1632 (by decide +kernel) rfl, gBW_t 1634 (by decide +kernel) rfl, gBW_s 79 (by decide +kernel) rfl, gBW_t 12 (by decide +kernel) rfl, by decide, by decide, by decide +kernel⟩
theorem LX11_368 : gLv RX11 368 yX11_goesAside cX11_goesAside 2 none 0 := ⟨gBW_t 1639 (by decide +kernel) rfl, gBW_t 1636 (by decide +kernel) rfl, gBW_t 1638 (by decide +kernel) rfl, gBW_s 80 (by decide +kernel) rfl, gBW_t 12 (by decide +kernel) rfl, by decide, by decide, by decide +kernel⟩
theorem LX11_371 : gLv RX11 371 yX11_keeps cX11_keeps 2 none 0 := ⟨gBW_t 1643 (by decide +kernel) rfl, gBW_t 1640 (by decide +kernel) rfl, gBW_t 1642 (by decide +kernel) rfl, gBW_s 81 (by decide +kernel) rfl, gBW_t 12 (by decide +kernel) rfl, by decide, by decide, by decide +kernel⟩
theorem LX11_374 : gLv RX11 374 yX11_does cX11_does 4 (some .int) 1 := ⟨gBW_t 1647 (by decide +kernel) rfl, gBW_t 1644 (by decide +kernel) rfl, gBW_t 1646 (by decide +kernel) rfl, gBW_s 82 (by decide +kernel) rfl, gBW_t 12 (by decide +kernel) rfl, by decide, by decide, by decide +kernel⟩
theorem LX11_353 : gLv RX11 353 yX11_cutsFrom cX11_cutsFrom 4 (some .int) 2 := ⟨gBW_t 1651 (by decide +kernel) rfl, gBW_t 1648 (by decide +kernel) rfl, gBW_t 1650 (by decide +kernel) rfl, gBW_s 83 (by decide +kernel) rfl, gBW_t 12 (by decide +kernel) rfl, by decide, by decide, by decide +kernel⟩
theorem LX11_350 : gLv RX11 350 yX11_cuts cX11_cuts 7 (some .int) 1 := ⟨gBW_t 1655 (by decide +kernel) rfl, gBW_t 1652 (by decide +kernel) rfl, gBW_t 1654 (by decide +kernel) rfl, gBW_s 84 (by decide +kernel) rfl, gBW_t 12 (by decide +kernel) rfl, by decide, by decide, by decide +kernel⟩
theorem LX11_197 : gLv RX11 197 yX11_takesAway cX11_takesAway 3 none 1 := ⟨gBW_t 1659 (by decide +kernel) rfl, gBW_t 1656 (by decide +kernel) rfl, gBW_t 1658 (by decide +kernel) rfl, gBW_s 85 (by decide +kernel) rfl, gBW_t 12 (by decide +kernel) rfl, by decide, by decide, by decide +kernel⟩
theorem LX11_200 : gLv RX11 200 yX11_laysGroups cX11_laysGroups 5 (some .int) 1 := ⟨gBW_t 1663 (by decide +kernel) rfl, gBW_t 1660 (by decide +kernel) rfl, gBW_t 1662 (by decide +kernel) rfl, gBW_s 86 (by decide +kernel) rfl, gBW_t 12 (by decide +kernel) rfl, by decide, by decide, by decide +kernel⟩
theorem LX11_203 : gLv RX11 203 yX11_sortsHeads cX11_sortsHeads 6 none 1 := ⟨gBW_t 1667 (by decide +kernel) rfl, gBW_t 1664 (by decide +kernel) rfl, gBW_t 1666 (by decide +kernel) rfl, gBW_s 87 (by decide +kernel) rfl, gBW_t 12 (by decide +kernel) rfl, by decide, by decide, by decide +kernel⟩
theorem LX11_191 : gLv RX11 191 yX11_isBehind cX11_isBehind 5 (some .boolean) 3 := ⟨gBW_t 1671 (by decide +kernel) rfl, gBW_t 1668 (by decide +kernel) rfl, gBW_t 1670 (by decide +kernel) rfl, gBW_s 88 (by decide +kernel) rfl, gBW_t 12 (by decide +kernel) rfl, by decide, by decide, by decide +kernel⟩
theorem LX11_194 : gLv RX11 194 yX11_leads cX11_leads 4 (some .boolean) 2 := ⟨gBW_t 1675 (by decide +kernel) rfl, gBW_t 1672 (by decide +kernel) rfl, gBW_t 1674 (by decide +kernel) rfl, gBW_s 89 (by decide +kernel) rfl, gBW_t 12 (by decide +kernel) rfl, by decide, by decide, by decide +kernel⟩
theorem LX11_356 : gLv RX11 356 yX11_becomes cX11_becomes 4 (some .int) 2 := ⟨gBW_t 1679 (by decide +kernel) rfl, gBW_t 1676 (by decide +kernel) rfl, gBW_t 1678 (by decide +kernel) rfl, gBW_s 90 (by decide +kernel) rfl, gBW_t 12 (by decide +kernel) rfl, by decide, by decide, by decide +kernel⟩
theorem LX11_359 : gLv RX11 359 yX11_swaps cX11_swaps 4 (some .int) 1 := ⟨gBW_t 1683 (by decide +kernel) rfl, gBW_t 1680 (by decide +kernel) rfl, gBW_t 1682 (by decide +kernel) rfl, gBW_s 91 (by decide +kernel) rfl, gBW_t 12 (by decide +kernel) rfl, by decide, by decide, by decide +kernel⟩
theorem LX11_362 : gLv RX11 362 yX11_refreshes cX11_refreshes 3 (some .int) 0 := ⟨gBW_t 1687 (by decide +kernel) rfl, gBW_t 1684 (by decide +kernel) rfl, gBW_t 1686 (by decide +kernel) rfl, gBW_s 92 (by decide +kernel) rfl, gBW_t 12 (by decide +kernel) rfl, by decide, by decide, by decide +kernel⟩
theorem LX11_206 : gLv RX11 206 yX11_laysFresh cX11_laysFresh 3 none 0 := ⟨gBW_t 1691 (by decide +kernel) rfl, gBW_t 1688 (by decide +kernel) rfl, gBW_t 1690 (by decide +kernel) rfl, gBW_s 93 (by decide +kernel) rfl, gBW_t 12 (by decide +kernel) rfl, by decide, by decide, by decide +kernel⟩
theorem LL_140 : gLv RL 140 yX11_size cX11_size 2 (some .int) 1 := ⟨gBW_t 1695 (by decide +kernel) rfl, gBW_t 1692 (by decide +kernel) rfl, gBW_t 1693 (by decide +kernel) rfl, gBW_t 1694 (by decide +kernel) rfl, gBW_t 12 (by decide +kernel) rfl, by decide, by decide, by decide +kernel⟩
theorem LX11_380 : gLv RX11 380 yX11_largest cX11_largest 3 (some .int) 0 := ⟨gBW_t 1699 (by decide +kernel) rfl, gBW_t 1696 (by decide +kernel) rfl, gBW_t 1698 (by decide +kernel) rfl, gBW_s 94 (by decide +kernel) rfl, gBW_t 12 (by decide +kernel) rfl, by decide, by decide, by decide +kernel⟩
theorem LX11_383 : gLv RX11 383 yX11_inners cX11_inners 3 (some .int) 0 := ⟨gBW_t 1704 (by decide +kernel) rfl, gBW_t 1701 (by decide +kernel) rfl, gBW_t 1703 (by decide +kernel) rfl, gBW_s 95 (by decide +kernel) rfl, gBW_t 12 (by decide +kernel) rfl, by decide, by decide, by decide +kernel⟩
theorem LX11_386 : gLv RX11 386 yX11_groupsOfMore cX11_groupsOfMore 3 (some .int) 0 := ⟨gBW_t 1708 (by decide +kernel) rfl, gBW_t 1705 (by decide +kernel) rfl, gBW_t 1707 (by decide +kernel) rfl, gBW_s 96 (by decide +kernel) rfl, gBW_t 12 (by decide +kernel) rfl, by decide, by decide, by decide +kernel⟩
theorem LL_144 : gLv RL 144 yX11_task cX11_task 3 (some .int) 2 := ⟨gBW_t 1712 (by decide +kernel) rfl, gBW_t 1709 (by decide +kernel) rfl, gBW_t 1710 (by decide +kernel) rfl, gBW_t 1711 (by decide +kernel) rfl, gBW_t 12 (by decide +kernel) rfl, by decide, by decide, by decide +kernel⟩
theorem LX11_389 : gLv RX11 389 yX11_noTask cX11_noTask 2 (some .boolean) 1 := ⟨gBW_t 1716 (by decide +kernel) rfl, gBW_t 1713 (by decide +kernel) rfl, gBW_t 1715 (by decide +kernel) rfl, gBW_s 97 (by decide +kernel) rfl, gBW_t 12 (by decide +kernel) rfl, by decide, by decide, by decide +kernel⟩
theorem LX11_392 : gLv RX11 392 yX11_throwsIf cX11_throwsIf 3 (some .boolean) 2 := ⟨gBW_t 1720 (by decide +kernel) rfl, gBW_t 1717 (by decide +kernel) rfl, gBW_t 1719 (by decide +kernel) rfl, gBW_s 98 (by decide +kernel) rfl, gBW_t 12 (by decide +kernel) rfl, by decide, by decide, by decide +kernel⟩
theorem LX11_396 : gLv RX11 396 yX11_arrowsOf cX11_arrowsOf 5 (some .int) 2 := ⟨gBW_t 1724 (by decide +kernel) rfl, gBW_t 1721 (by decide +kernel) rfl, gBW_t 1723 (by decide +kernel) rfl, gBW_s 99 (by decide +kernel) rfl, gBW_t 12 (by decide +kernel) rfl, by decide, by decide, by decide +kernel⟩
theorem LX11_400 : gLv RX11 400 yX11_reaching cX11_reaching 4 (some .int) 1 := ⟨gBW_t 1728 (by decide +kernel) rfl, gBW_t 1725 (by decide +kernel) rfl, gBW_t 1727 (by decide +kernel) rfl, gBW_s 100 (by decide +kernel) rfl, gBW_t 12 (by decide +kernel) rfl, by decide, by decide, by decide +kernel⟩
theorem LL_147 : gLv RL 147 yX11_letter cX11_letter 3 (some .int) 2 := ⟨gBW_t 1732 (by decide +kernel) rfl, gBW_t 1729 (by decide +kernel) rfl, gBW_t 1730 (by decide +kernel) rfl, gBW_t 1731 (by decide +kernel) rfl, gBW_t 12 (by decide +kernel) rfl, by decide, by decide, by decide +kernel⟩
theorem LL_150 : gLv RL 150 yX11_group cX11_group 3 (some .int) 2 := ⟨gBW_t 1736 (by decide +kernel) rfl, gBW_t 1733 (by decide +kernel) rfl, gBW_t 1734 (by decide +kernel) rfl, gBW_t 1735 (by decide +kernel) rfl, gBW_t 12 (by decide +kernel) rfl, by decide, by decide, by decide +kernel⟩
theorem LX11_409 : gLv RX11 409 yX11_noPlace cX11_noPlace 2 (some .boolean) 1 := ⟨gBW_t 1740 (by decide +kernel) rfl, gBW_t 1737 (by decide +kernel) rfl, gBW_t 1739 (by decide +kernel) rfl, gBW_s 101 (by decide +kernel) rfl, gBW_t 12 (by decide +kernel) rfl, by decide, by decide, by decide +kernel⟩
theorem LX11_412 : gLv RX11 412 yX11_laysChains cX11_laysChains 3 none 0 := ⟨gBW_t 1744 (by decide +kernel) rfl, gBW_t 1741 (by decide +kernel) rfl, gBW_t 1743 (by decide +kernel) rfl, gBW_s 102 (by decide +kernel) rfl, gBW_t 12 (by decide +kernel) rfl, by decide, by decide, by decide +kernel⟩
theorem LX11_406 : gLv RX11 406 yX11_hoursOf cX11_hoursOf 4 (some .int) 1 := ⟨gBW_t 1748 (by decide +kernel) rfl, gBW_t 1745 (by decide +kernel) rfl, gBW_t 1747 (by decide +kernel) rfl, gBW_s 103 (by decide +kernel) rfl, gBW_t 12 (by decide +kernel) rfl, by decide, by decide, by decide +kernel⟩
theorem LX11_415 : gLv RX11 415 yX11_innersOf cX11_innersOf 4 (some .int) 1 := ⟨gBW_t 1752 (by decide +kernel) rfl, gBW_t 1749 (by decide +kernel) rfl, gBW_t 1751 (by decide +kernel) rfl, gBW_s 104 (by decide +kernel) rfl, gBW_t 12 (by decide +kernel) rfl, by decide, by decide, by decide +kernel⟩
theorem LX11_418 : gLv RX11 418 yX11_slack cX11_slack 2 (some .int) 1 := ⟨gBW_t 1756 (by decide +kernel) rfl, gBW_t 1753 (by decide +kernel) rfl, gBW_t 1755 (by decide +kernel) rfl, gBW_s 105 (by decide +kernel) rfl, gBW_t 12 (by decide +kernel) rfl, by decide, by decide, by decide +kernel⟩
theorem LL_153 : gLv RL 153 yX11_arrow cX11_arrow 3 (some .int) 2 := ⟨gBW_t 1760 (by decide +kernel) rfl, gBW_t 1757 (by decide +kernel) rfl, gBW_t 1758 (by decide +kernel) rfl, gBW_t 1759 (by decide +kernel) rfl, gBW_t 12 (by decide +kernel) rfl, by decide, by decide, by decide +kernel⟩
theorem LX11_421 : gLv RX11 421 yX11_noArrow cX11_noArrow 2 (some .boolean) 1 := ⟨gBW_t 1764 (by decide +kernel) rfl, gBW_t 1761 (by decide +kernel) rfl, gBW_t 1763 (by decide +kernel) rfl, gBW_s 106 (by decide +kernel) rfl, gBW_t 12 (by decide +kernel) rfl, by decide, by decide, by decide +kernel⟩
theorem LL_156 : gLv RL 156 yX11_arrowOf cX11_arrowOf 3 (some .int) 2 := ⟨gBW_t 1768 (by decide +kernel) rfl, gBW_t 1765 (by decide +kernel) rfl, gBW_t 1766 (by decide +kernel) rfl, gBW_t 1767 (by decide +kernel) rfl, gBW_t 12 (by decide +kernel) rfl, by decide, by decide, by decide +kernel⟩
theorem LX11_424 : gLv RX11 424 yX11_noTasks cX11_noTasks 3 (some .boolean) 2 := ⟨gBW_t 1772 (by decide +kernel) rfl, gBW_t 1769 (by decide +kernel) rfl, gBW_t 1771 (by decide +kernel) rfl, gBW_s 107 (by decide +kernel) rfl, gBW_t 12 (by decide +kernel) rfl, by decide, by decide, by decide +kernel⟩
theorem LL_159 : gLv RL 159 yX11_reaches cX11_reaches 3 (some .boolean) 2 := ⟨gBW_t 1776 (by decide +kernel) rfl, gBW_t 1773 (by decide +kernel) rfl, gBW_t 1774 (by decide +kernel) rfl, gBW_t 1775 (by decide +kernel) rfl, gBW_t 12 (by decide +kernel) rfl, by decide, by decide, by decide +kernel⟩
theorem LL_162 : gLv RL 162 yX11_far cX11_far 3 (some .int) 2 := ⟨gBW_t 1780 (by decide +kernel) rfl, gBW_t 1777 (by decide +kernel) rfl, gBW_t 1778 (by decide +kernel) rfl, gBW_t 1779 (by decide +kernel) rfl, gBW_t 12 (by decide +kernel) rfl, by decide, by decide, by decide +kernel⟩
theorem LX11_427 : gLv RX11 427 yX11_laysSteps cX11_laysSteps 4 none 1 := ⟨gBW_t 1784 (by decide +kernel) rfl, gBW_t 1781 (by decide +kernel) rfl, gBW_t 1783 (by decide +kernel) rfl, gBW_s 108 (by decide +kernel) rfl, gBW_t 12 (by decide +kernel) rfl, by decide, by decide, by decide +kernel⟩
theorem LL_166 : gLv RL 166 yX11_on cX11_on 6 (some .int) 3 := ⟨gBW_t 1788 (by decide +kernel) rfl, gBW_t 1785 (by decide +kernel) rfl, gBW_t 1786 (by decide +kernel) rfl, gBW_t 1787 (by decide +kernel) rfl, gBW_t 12 (by decide +kernel) rfl, by decide, by decide, by decide +kernel⟩
theorem LX11_430 : gLv RX11 430 yX11_nextOn cX11_nextOn 6 (some .int) 1 := ⟨gBW_t 1792 (by decide +kernel) rfl, gBW_t 1789 (by decide +kernel) rfl, gBW_t 1791 (by decide +kernel) rfl, gBW_s 109 (by decide +kernel) rfl, gBW_t 12 (by decide +kernel) rfl, by decide, by decide, by decide +kernel⟩
theorem LL_169 : gLv RL 169 yX11_trial cX11_trial 5 (some .int) 3 := ⟨gBW_t 1796 (by decide +kernel) rfl, gBW_t 1793 (by decide +kernel) rfl, gBW_t 1794 (by decide +kernel) rfl, gBW_t 1795 (by decide +kernel) rfl, gBW_t 12 (by decide +kernel) rfl, by decide, by decide, by decide +kernel⟩
theorem LX11_433 : gLv RX11 433 yX11_wouldMove cX11_wouldMove 4 (some .int) 3 := ⟨gBW_t 1800 (by decide +kernel) rfl, gBW_t 1797 (by decide +kernel) rfl, gBW_t 1799 (by decide +kernel) rfl, gBW_s 110 (by decide +kernel) rfl, gBW_t 12 (by decide +kernel) rfl, by decide, by decide, by decide +kernel⟩
theorem LX11_436 : gLv RX11 436 yX11_comesBack cX11_comesBack 3 (some .int) 1 := ⟨gBW_t 1804 (by decide +kernel) rfl, gBW_t 1801 (by decide +kernel) rfl, gBW_t 1803 (by decide +kernel) rfl, gBW_s 111 (by decide +kernel) rfl, gBW_t 12 (by decide +kernel) rfl, by decide, by decide, by decide +kernel⟩
theorem LL_172 : gLv RL 172 yX11_why cX11_why 5 (some .int) 3 := ⟨gBW_t 1808 (by decide +kernel) rfl, gBW_t 1805 (by decide +kernel) rfl, gBW_t 1806 (by decide +kernel) rfl, gBW_t 1807 (by decide +kernel) rfl, gBW_t 12 (by decide +kernel) rfl, by decide, by decide, by decide +kernel⟩
theorem LL_175 : gLv RL 175 yX11_bestMode cX11_bestMode 7 (some .int) 2 := ⟨gBW_t 1812 (by decide +kernel) rfl, gBW_t 1809 (by decide +kernel) rfl, gBW_t 1810 (by decide +kernel) rfl, gBW_t 1811 (by decide +kernel) rfl, gBW_t 12 (by decide +kernel) rfl, by decide, by decide, by decide +kernel⟩
theorem LL_178 : gLv RL 178 yX11_leastPlace cX11_leastPlace 4 (some .int) 1 := ⟨gBW_t 1816 (by decide +kernel) rfl, gBW_t 1813 (by decide +kernel) rfl, gBW_t 1814 (by decide +kernel) rfl, gBW_t 1815 (by decide +kernel) rfl, gBW_t 12 (by decide +kernel) rfl, by decide, by decide, by decide +kernel⟩
theorem LL_181 : gLv RL 181 yX11_mostPlace cX11_mostPlace 4 (some .int) 1 := ⟨gBW_t 1820 (by decide +kernel) rfl, gBW_t 1817 (by decide +kernel) rfl, gBW_t 1818 (by decide +kernel) rfl, gBW_t 1819 (by decide +kernel) rfl, gBW_t 12 (by decide +kernel) rfl, by decide, by decide, by decide +kernel⟩
theorem LL_184 : gLv RL 184 yX11_fresh cX11_fresh 2 (some .int) 1 := ⟨gBW_t 1824 (by decide +kernel) rfl, gBW_t 1821 (by decide +kernel) rfl, gBW_t 1822 (by decide +kernel) rfl, gBW_t 1823 (by decide +kernel) rfl, gBW_t 12 (by decide +kernel) rfl, by decide, by decide, by decide +kernel⟩
theorem LL_188 : gLv RL 188 yX11_turned cX11_turned 4 (some .int) 0 := ⟨gBW_t 1828 (by decide +kernel) rfl, gBW_t 1825 (by decide +kernel) rfl, gBW_t 1826 (by decide +kernel) rfl, gBW_t 1827 (by decide +kernel) rfl, gBW_t 12 (by decide +kernel) rfl, by decide, by decide, by decide +kernel⟩
theorem LL_192 : gLv RL 192 yX11_length cX11_length 1 (some .int) 0 := ⟨gBW_t 1832 (by decide +kernel) rfl, gBW_t 1829 (by decide +kernel) rfl, gBW_t 1830 (by decide +kernel) rfl, gBW_t 1831 (by decide +kernel) rfl, gBW_t 12 (by decide +kernel) rfl, by decide, by decide, by decide +kernel⟩
theorem LL_196 : gLv RL 196 yX11_tight cX11_tight 3 (some .int) 0 := ⟨gBW_t 1836 (by decide +kernel) rfl, gBW_t 1833 (by decide +kernel) rfl, gBW_t 1834 (by decide +kernel) rfl, gBW_t 1835 (by decide +kernel) rfl, gBW_t 12 (by decide +kernel) rfl, by decide, by decide, by decide +kernel⟩
theorem LL_200 : gLv RL 200 yX11_gap cX11_gap 5 (some .int) 0 := ⟨gBW_t 1840 (by decide +kernel) rfl, gBW_t 1837 (by decide +kernel) rfl, gBW_t 1838 (by decide +kernel) rfl, gBW_t 1839 (by decide +kernel) rfl, gBW_t 12 (by decide +kernel) rfl, by decide, by decide, by decide +kernel⟩
theorem LL_204 : gLv RL 204 yX11_weakest cX11_weakest 5 (some .int) 0 := ⟨gBW_t 1844 (by decide +kernel) rfl, gBW_t 1841 (by decide +kernel) rfl, gBW_t 1842 (by decide +kernel) rfl, gBW_t 1843 (by decide +kernel) rfl, gBW_t 12 (by decide +kernel) rfl, by decide, by decide, by decide +kernel⟩
theorem LX11_439 : gLv RX11 439 yX11_groupsBy cX11_groupsBy 2 (some .int) 1 := ⟨gBW_t 1848 (by decide +kernel) rfl, gBW_t 1845 (by decide +kernel) rfl, gBW_t 1847 (by decide +kernel) rfl, gBW_s 112 (by decide +kernel) rfl, gBW_t 12 (by decide +kernel) rfl, by decide, by decide, by decide +kernel⟩
theorem LL_208 : gLv RL 208 yX11_needless cX11_needless 3 (some .int) 0 := ⟨gBW_t 1852 (by decide +kernel) rfl, gBW_t 1849 (by decide +kernel) rfl, gBW_t 1850 (by decide +kernel) rfl, gBW_t 1851 (by decide +kernel) rfl, gBW_t 12 (by decide +kernel) rfl, by decide, by decide, by decide +kernel⟩
theorem LL_211 : gLv RL 211 yX11_account cX11_account 2 (some .long) 1 := ⟨gBW_t 1856 (by decide +kernel) rfl, gBW_t 1853 (by decide +kernel) rfl, gBW_t 1854 (by decide +kernel) rfl, gBW_t 1855 (by decide +kernel) rfl, gBW_t 12 (by decide +kernel) rfl, by decide, by decide, by decide +kernel⟩
theorem LL_216 : gLv RL 216 yX11_innerShare cX11_innerShare 1 (some .float) 0 := ⟨gBW_t 1860 (by decide +kernel) rfl, gBW_t 1857 (by decide +kernel) rfl, gBW_t 1858 (by decide +kernel) rfl, gBW_t 1859 (by decide +kernel) rfl, gBW_t 12 (by decide +kernel) rfl, by decide, by decide, by decide +kernel⟩
theorem LL_221 : gLv RL 221 yX11_meanMoved cX11_meanMoved 1 (some .double) 0 := ⟨gBW_t 1864 (by decide +kernel) rfl, gBW_t 1861 (by decide +kernel) rfl, gBW_t 1862 (by decide +kernel) rfl, gBW_t 1863 (by decide +kernel) rfl, gBW_t 12 (by decide +kernel) rfl, by decide, by decide, by decide +kernel⟩
theorem LL_224 : gLv RL 224 yX11_make cX11_make 2 (some .int) 1 := ⟨gBW_t 1868 (by decide +kernel) rfl, gBW_t 1865 (by decide +kernel) rfl, gBW_t 1866 (by decide +kernel) rfl, gBW_t 1867 (by decide +kernel) rfl, gBW_t 12 (by decide +kernel) rfl, by decide, by decide, by decide +kernel⟩
theorem LX11_445 : gLv RX11 445 yX11_makes cX11_makes 3 (some .int) 1 := ⟨gBW_t 1872 (by decide +kernel) rfl, gBW_t 1869 (by decide +kernel) rfl, gBW_t 1871 (by decide +kernel) rfl, gBW_s 113 (by decide +kernel) rfl, gBW_t 12 (by decide +kernel) rfl, by decide, by decide, by decide +kernel⟩
theorem LX11_442 : gLv RX11 442 yX11_isName cX11_isName 2 (some .boolean) 0 := ⟨gBW_t 1876 (by decide +kernel) rfl, gBW_t 1873 (by decide +kernel) rfl, gBW_t 1875 (by decide +kernel) rfl, gBW_s 114 (by decide +kernel) rfl, gBW_t 12 (by decide +kernel) rfl, by decide, by decide, by decide +kernel⟩
theorem LX11_448 : gLv RX11 448 yX11_done cX11_done 2 (some .int) 1 := ⟨gBW_t 1880 (by decide +kernel) rfl, gBW_t 1877 (by decide +kernel) rfl, gBW_t 1879 (by decide +kernel) rfl, gBW_s 115 (by decide +kernel) rfl, gBW_t 12 (by decide +kernel) rfl, by decide, by decide, by decide +kernel⟩
theorem LL_227 : gLv RL 227 yX11_add cX11_add 3 (some .int) 2 := ⟨gBW_t 1884 (by decide +kernel) rfl, gBW_t 1881 (by decide +kernel) rfl, gBW_t 1882 (by decide +kernel) rfl, gBW_t 1883 (by decide +kernel) rfl, gBW_t 12 (by decide +kernel) rfl, by decide, by decide, by decide +kernel⟩
theorem LL_230 : gLv RL 230 yX11_cut cX11_cut 2 (some .int) 1 := ⟨gBW_t 1888 (by decide +kernel) rfl, gBW_t 1885 (by decide +kernel) rfl, gBW_t 1886 (by decide +kernel) rfl, gBW_t 1887 (by decide +kernel) rfl, gBW_t 12 (by decide +kernel) rfl, by decide, by decide, by decide +kernel⟩
theorem LL_233 : gLv RL 233 yX11_swap cX11_swap 2 (some .int) 1 := ⟨gBW_t 1892 (by decide +kernel) rfl, gBW_t 1889 (by decide +kernel) rfl, gBW_t 1890 (by decide +kernel) rfl, gBW_t 1891 (by decide +kernel) rfl, gBW_t 12 (by decide +kernel) rfl, by decide, by decide, by decide +kernel⟩
theorem LL_236 : gLv RL 236 yX11_setHours cX11_setHours 3 (some .int) 2 := ⟨gBW_t 1896 (by decide +kernel) rfl, gBW_t 1893 (by decide +kernel) rfl, gBW_t 1894 (by decide +kernel) rfl, gBW_t 1895 (by decide +kernel) rfl, gBW_t 12 (by decide +kernel) rfl, by decide, by decide, by decide +kernel⟩
theorem LL_239 : gLv RL 239 yX11_set cX11_set 4 (some .int) 2 := ⟨gBW_t 1900 (by decide +kernel) rfl, gBW_t 1897 (by decide +kernel) rfl, gBW_t 1898 (by decide +kernel) rfl, gBW_t 1899 (by decide +kernel) rfl, gBW_t 12 (by decide +kernel) rfl, by decide, by decide, by decide +kernel⟩
theorem LL_243 : gLv RL 243 yX11_refresh cX11_refresh 1 (some .int) 0 := ⟨gBW_t 1904 (by decide +kernel) rfl, gBW_t 1901 (by decide +kernel) rfl, gBW_t 1902 (by decide +kernel) rfl, gBW_t 1903 (by decide +kernel) rfl, gBW_t 12 (by decide +kernel) rfl, by decide, by decide, by decide +kernel⟩
theorem LL_247 : gLv RL 247 yX11_writeOrder cX11_writeOrder 2 (some .int) 0 := ⟨gBW_t 1908 (by decide +kernel) rfl, gBW_t 1905 (by decide +kernel) rfl, gBW_t 1906 (by decide +kernel) rfl, gBW_t 1907 (by decide +kernel) rfl, gBW_t 12 (by decide +kernel) rfl, by decide, by decide, by decide +kernel⟩
theorem LX11_454 : gLv RX11 454 yX11_tells cX11_tells 2 none 1 := ⟨gBW_t 1912 (by decide +kernel) rfl, gBW_t 1909 (by decide +kernel) rfl, gBW_t 1911 (by decide +kernel) rfl, gBW_s 116 (by decide +kernel) rfl, gBW_t 12 (by decide +kernel) rfl, by decide, by decide, by decide +kernel⟩
theorem LX11_460 : gLv RX11 460 yX11_tellsGroup cX11_tellsGroup 5 none 1 := ⟨gBW_t 1916 (by decide +kernel) rfl, gBW_t 1913 (by decide +kernel) rfl, gBW_t 1915 (by decide +kernel) rfl, gBW_s 117 (by decide +kernel) rfl, gBW_t 12 (by decide +kernel) rfl, by decide, by decide, by decide +kernel⟩
theorem LX11_457 : gLv RX11 457 yX11_tellsName cX11_tellsName 3 none 1 := ⟨gBW_t 1920 (by decide +kernel) rfl, gBW_t 1917 (by decide +kernel) rfl, gBW_t 1919 (by decide +kernel) rfl, gBW_s 118 (by decide +kernel) rfl, gBW_t 12 (by decide +kernel) rfl, by decide, by decide, by decide +kernel⟩
theorem LL_250 : gLv RL 250 yX11_writeArrows cX11_writeArrows 3 (some .int) 1 := ⟨gBW_t 1924 (by decide +kernel) rfl, gBW_t 1921 (by decide +kernel) rfl, gBW_t 1922 (by decide +kernel) rfl, gBW_t 1923 (by decide +kernel) rfl, gBW_t 12 (by decide +kernel) rfl, by decide, by decide, by decide +kernel⟩
theorem LL_254 : gLv RL 254 yX11_outputByte cX11_outputByte 2 (some .int) 1 := ⟨gBW_t 1928 (by decide +kernel) rfl, gBW_t 1925 (by decide +kernel) rfl, gBW_t 1926 (by decide +kernel) rfl, gBW_t 1927 (by decide +kernel) rfl, gBW_t 12 (by decide +kernel) rfl, by decide, by decide, by decide +kernel⟩
theorem LL_258 : gLv RL 258 yX11_undo cX11_undo 2 (some .int) 0 := ⟨gBW_t 1932 (by decide +kernel) rfl, gBW_t 1929 (by decide +kernel) rfl, gBW_t 1930 (by decide +kernel) rfl, gBW_t 1931 (by decide +kernel) rfl, gBW_t 12 (by decide +kernel) rfl, by decide, by decide, by decide +kernel⟩
theorem LL_262 : gLv RL 262 yX11_save cX11_save 2 (some .int) 0 := ⟨gBW_t 1936 (by decide +kernel) rfl, gBW_t 1933 (by decide +kernel) rfl, gBW_t 1934 (by decide +kernel) rfl, gBW_t 1935 (by decide +kernel) rfl, gBW_t 12 (by decide +kernel) rfl, by decide, by decide, by decide +kernel⟩
theorem LL_265 : gLv RL 265 yX11_restore cX11_restore 2 (some .int) 0 := ⟨gBW_t 1940 (by decide +kernel) rfl, gBW_t 1937 (by decide +kernel) rfl, gBW_t 1938 (by decide +kernel) rfl, gBW_t 1939 (by decide +kernel) rfl, gBW_t 12 (by decide +kernel) rfl, by decide, by decide, by decide +kernel⟩
theorem LX8_79 : gLn RX8 79 yX10_has "RingFreeOrder" cX10_has 2 (some .boolean) 2 := ⟨gBW_t 416 (by decide +kernel) rfl, by decide, gBW_t 415 (by decide +kernel) rfl, gBW_t 1 (by decide +kernel) rfl, by decide, by decide, by decide +kernel⟩
theorem LX2_71 : gLn RX2 71 yX10_has "RingFreeOrder" cX10_has 2 (some .boolean) 2 := ⟨gBW_t 416 (by decide +kernel) rfl, by decide, gBW_t 415 (by decide +kernel) rfl, gBW_t 1 (by decide +kernel) rfl, by decide, by decide, by decide +kernel⟩
theorem LX4_38 : gLn RX4 38 yX10_has "RingFreeOrder" cX10_has 2 (some .boolean) 2 := ⟨gBW_t 416 (by decide +kernel) rfl, by decide, gBW_t 415 (by decide +kernel) rfl, gBW_t 1 (by decide +kernel) rfl, by decide, by decide, by decide +kernel⟩
theorem LX4_42 : gLn RX4 42 yX10_headOf "RingFreeOrder" cX10_headOf 1 (some .int) 1 := ⟨gBW_t 452 (by decide +kernel) rfl, by decide, gBW_t 451 (by decide +kernel) rfl, gBW_t 1 (by decide +kernel) rfl, by decide, by decide, by decide +kernel⟩
theorem LX4_19 : gLn RX4 19 yX10_letterOf "RingFreeOrder" cX10_letterOf 3 (some .int) 2 := ⟨gBW_t 566 (by decide +kernel) rfl, by decide, gBW_t 565 (by decide +kernel) rfl, gBW_t 1 (by decide +kernel) rfl, by decide, by decide, by decide +kernel⟩
theorem LX6_53 : gLn RX6 53 yX10_has "RingFreeOrder" cX10_has 2 (some .boolean) 2 := ⟨gBW_t 416 (by decide +kernel) rfl, by decide, gBW_t 415 (by decide +kernel) rfl, gBW_t 1 (by decide +kernel) rfl, by decide, by decide, by decide +kernel⟩
theorem LX9_30 : gLn RX9 30 yX10_has "RingFreeOrder" cX10_has 2 (some .boolean) 2 := ⟨gBW_t 416 (by decide +kernel) rfl, by decide, gBW_t 415 (by decide +kernel) rfl, gBW_t 1 (by decide +kernel) rfl, by decide, by decide, by decide +kernel⟩
theorem KJ6_264 : Cond.constant RJ6 264 65536 ∈ gBW := gBW_t 456 (by decide +kernel) rfl
theorem KJ6_265 : Cond.constant RJ6 265 1431655765 ∈ gBW := gBW_t 554 (by decide +kernel) rfl
theorem KJ6_266 : Cond.constant RJ6 266 858993459 ∈ gBW := gBW_t 555 (by decide +kernel) rfl
theorem KJ6_267 : Cond.constant RJ6 267 252645135 ∈ gBW := gBW_t 556 (by decide +kernel) rfl
theorem KX10_90 : Cond.constantLong RX10 90 97 ∈ gBW := gBW_t 327 (by decide +kernel) rfl
theorem SX10_101 : (RX10, 101, "the input buffer would exceed 900 bytes", 23) ∈ gStr := by decide
theorem SX10_112 : (RX10, 112, "no such length", 11) ∈ gStr := by decide
theorem SX1_48 : (RX1, 48, "task", 0) ∈ gStr := by decide
theorem SX1_69 : (RX1, 69, "arrow", 1) ∈ gStr := by decide
theorem SX1_74 : (RX1, 74, "mode", 2) ∈ gStr := by decide
theorem SX1_79 : (RX1, 79, "join", 3) ∈ gStr := by decide
theorem SX10_119 : (RX10, 119, "the description has an error", 22) ∈ gStr := by decide
theorem SX3_66 : (RX3, 66, "arrow", 1) ∈ gStr := by decide
theorem SX3_72 : (RX3, 72, "cut", 4) ∈ gStr := by decide
theorem SX3_74 : (RX3, 74, "hours", 5) ∈ gStr := by decide
theorem SX3_76 : (RX3, 76, "swap", 6) ∈ gStr := by decide
theorem SX3_78 : (RX3, 78, "mode", 2) ∈ gStr := by decide
theorem SX3_80 : (RX3, 80, "join", 3) ∈ gStr := by decide
theorem SX3_82 : (RX3, 82, "refresh", 7) ∈ gStr := by decide
theorem SX10_131 : (RX10, 131, "the orders have an error", 24) ∈ gStr := by decide
theorem SX10_168 : (RX10, 168, "no such number", 12) ∈ gStr := by decide
theorem SX10_389 : (RX10, 389, "no such task", 19) ∈ gStr := by decide
theorem SX10_212 : (RX10, 212, "no such number of a task", 14) ∈ gStr := by decide
theorem SX10_394 : (RX10, 394, "no such place", 18) ∈ gStr := by decide
theorem SX10_222 : (RX10, 222, "no such number of a group", 13) ∈ gStr := by decide
theorem SX10_392 : (RX10, 392, "no such arrow", 10) ∈ gStr := by decide
theorem SX10_253 : (RX10, 253, "no such number of an arrow", 16) ∈ gStr := by decide
theorem SX10_273 : (RX10, 273, "no such number of a trial", 15) ∈ gStr := by decide
theorem SX10_297 : (RX10, 297, "the depth is negative", 21) ∈ gStr := by decide
theorem SX10_337 : (RX10, 337, "no such account", 9) ∈ gStr := by decide
theorem SX10_396 : (RX10, 396, "hours are out of range", 8) ∈ gStr := by decide
theorem SX10_365 : (RX10, 365, "no such number or value", 17) ∈ gStr := by decide
theorem SX10_385 : (RX10, 385, "nothing was saved", 20) ∈ gStr := by decide
theorem SX11_288 : (RX11, 288, "task", 0) ∈ gStr := by decide
theorem SX11_297 : (RX11, 297, "arrow", 1) ∈ gStr := by decide
theorem SX11_302 : (RX11, 302, "mode", 2) ∈ gStr := by decide
theorem SX11_307 : (RX11, 307, "join", 3) ∈ gStr := by decide
theorem SX11_327 : (RX11, 327, "cut", 4) ∈ gStr := by decide
theorem SX11_329 : (RX11, 329, "hours", 5) ∈ gStr := by decide
theorem SX11_331 : (RX11, 331, "swap", 6) ∈ gStr := by decide
theorem SX11_333 : (RX11, 333, "refresh", 7) ∈ gStr := by decide
theorem Zmax_s : Cond.static Lib.Math.max.name ∈ gBW := gBW_t 436 (by decide +kernel) rfl
theorem Zmax_c : Cond.code Lib.Math.max.name Lib.Math.max.code 2 (some .int) ∈ gBW := gBW_t 437 (by decide +kernel) rfl
theorem ZmaxX0_50 : Cond.methodLink RX0 50 Lib.Math.max.name ∈ gBW := gBW_t 435 (by decide +kernel) rfl
theorem ZmaxX2_89 : Cond.methodLink RX2 89 Lib.Math.max.name ∈ gBW := gBW_t 993 (by decide +kernel) rfl
theorem ZmaxX10_299 : Cond.methodLink RX10 299 Lib.Math.max.name ∈ gBW := gBW_t 1148 (by decide +kernel) rfl
theorem ZmaxX11_377 : Cond.methodLink RX11 377 Lib.Math.max.name ∈ gBW := gBW_t 1700 (by decide +kernel) rfl
theorem Zmin_s : Cond.static Lib.Math.min.name ∈ gBW := gBW_t 1157 (by decide +kernel) rfl
theorem Zmin_c : Cond.code Lib.Math.min.name Lib.Math.min.code 2 (some .int) ∈ gBW := gBW_t 1158 (by decide +kernel) rfl
theorem ZminX10_304 : Cond.methodLink RX10 304 Lib.Math.min.name ∈ gBW := gBW_t 1156 (by decide +kernel) rfl
theorem ZminX11_161 : Cond.methodLink RX11 161 Lib.Math.min.name ∈ gBW := gBW_t 1549 (by decide +kernel) rfl
theorem Zm_i : Cond.initialized "java/lang/Math" ∈ gBW := gBW_t 25 (by decide +kernel) rfl
theorem U_0 : gTw RX10 99 103 "java/lang/IllegalStateException" := ⟨by decide, by decide, gBW_t 587 (by decide +kernel) rfl, gBW_t 16 (by decide +kernel) rfl, fun w h => gBW_of (List.mem_append_right _ ((show ∀ w ∈ (vx_atS RX10 103 "java/lang/IllegalStateException" ["java/lang/RuntimeException", "java/lang/Exception"]).filter goodWord, w ∈ tables_1 by decide +kernel) w h)) (List.mem_filter.mp h).2, by decide +kernel, by decide +kernel⟩
theorem U_1 : gTw RX10 110 114 "java/lang/IllegalArgumentException" := ⟨by decide, by decide, gBW_t 666 (by decide +kernel) rfl, gBW_t 17 (by decide +kernel) rfl, fun w h => gBW_of (List.mem_append_right _ ((show ∀ w ∈ (vx_atS RX10 114 "java/lang/IllegalArgumentException" ["java/lang/RuntimeException", "java/lang/Exception"]).filter goodWord, w ∈ tables_1 by decide +kernel) w h)) (List.mem_filter.mp h).2, by decide +kernel, by decide +kernel⟩
theorem U_2 : gTw RX10 387 391 "java/lang/IndexOutOfBoundsException" := ⟨by decide, by decide, gBW_t 1011 (by decide +kernel) rfl, gBW_t 26 (by decide +kernel) rfl, fun w h => gBW_of (List.mem_append_right _ ((show ∀ w ∈ (vx_atS RX10 391 "java/lang/IndexOutOfBoundsException" ["java/lang/RuntimeException", "java/lang/Exception"]).filter goodWord, w ∈ tables_1 by decide +kernel) w h)) (List.mem_filter.mp h).2, by decide +kernel, by decide +kernel⟩
def gEx (e : Nat) : String := match e with | 0 => "java/lang/IllegalStateException" | 1 => "java/lang/IllegalArgumentException" | _ => "java/lang/IndexOutOfBoundsException"
