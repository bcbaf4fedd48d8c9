/-! WORDS, by program: the worlds' shapes, the words of fields, calls, constants, throws -/
theorem gT1 {w : Cond} (i : Nat) (h : tables_1_1[i]? = some w) (hg : goodWord w = true) : w ∈ gBW := gBW_of (List.mem_append_right _ (by unfold tables_1; simp only [List.mem_append]; exact (Or.inl (List.mem_of_getElem? h)))) hg
theorem gT2 {w : Cond} (i : Nat) (h : tables_1_2[i]? = some w) (hg : goodWord w = true) : w ∈ gBW := gBW_of (List.mem_append_right _ (by unfold tables_1; simp only [List.mem_append]; exact (Or.inr (Or.inl (List.mem_of_getElem? h))))) hg
theorem gT3 {w : Cond} (i : Nat) (h : tables_1_3[i]? = some w) (hg : goodWord w = true) : w ∈ gBW := gBW_of (List.mem_append_right _ (by unfold tables_1; simp only [List.mem_append]; exact (Or.inr (Or.inr (Or.inl (List.mem_of_getElem? h)))))) hg
theorem gT4 {w : Cond} (i : Nat) (h : tables_1_4[i]? = some w) (hg : goodWord w = true) : w ∈ gBW := gBW_of (List.mem_append_right _ (by unfold tables_1; simp only [List.mem_append]; exact (Or.inr (Or.inr (Or.inr (Or.inl (List.mem_of_getElem? h))))))) hg
theorem gT5 {w : Cond} (i : Nat) (h : tables_1_5[i]? = some w) (hg : goodWord w = true) : w ∈ gBW := gBW_of (List.mem_append_right _ (by unfold tables_1; simp only [List.mem_append]; exact (Or.inr (Or.inr (Or.inr (Or.inr (Or.inl (List.mem_of_getElem? h)))))))) hg
theorem gT6 {w : Cond} (i : Nat) (h : tables_1_6[i]? = some w) (hg : goodWord w = true) : w ∈ gBW := gBW_of (List.mem_append_right _ (by unfold tables_1; simp only [List.mem_append]; exact (Or.inr (Or.inr (Or.inr (Or.inr (Or.inr (Or.inl (List.mem_of_getElem? h))))))))) hg
theorem gT7 {w : Cond} (i : Nat) (h : tables_1_7[i]? = some w) (hg : goodWord w = true) : w ∈ gBW := gBW_of (List.mem_append_right _ (by unfold tables_1; simp only [List.mem_append]; exact (Or.inr (Or.inr (Or.inr (Or.inr (Or.inr (Or.inr (Or.inl (List.mem_of_getElem? h)))))))))) hg
theorem gT8 {w : Cond} (i : Nat) (h : tables_1_8[i]? = some w) (hg : goodWord w = true) : w ∈ gBW := gBW_of (List.mem_append_right _ (by unfold tables_1; simp only [List.mem_append]; exact (Or.inr (Or.inr (Or.inr (Or.inr (Or.inr (Or.inr (Or.inr (Or.inl (List.mem_of_getElem? h))))))))))) hg
theorem gT9 {w : Cond} (i : Nat) (h : tables_1_9[i]? = some w) (hg : goodWord w = true) : w ∈ gBW := gBW_of (List.mem_append_right _ (by unfold tables_1; simp only [List.mem_append]; exact (Or.inr (Or.inr (Or.inr (Or.inr (Or.inr (Or.inr (Or.inr (Or.inr (List.mem_of_getElem? h))))))))))) hg
abbrev gShC : List gShp := [.inr (10, [(3, 1), (3, 11), (3, 21), (0, 0), (3, 31), (0, 0), (3, 32), (3, 34), (3, 36), (3, 37), (3, 41), (3, 44), (3, 50), (3, 55)]), .inr (2, [(3, 2), (3, 3), (3, 4), (3, 5), (3, 6), (3, 7), (3, 8), (3, 9), (3, 10), (0, 0), (0, 0), (0, 0), (0, 0), (0, 0)]), .inl (1, 24), .inl (0, 24), .inl (0, 60), .inl (0, 60), .inl (0, 24), .inl (0, 24), .inl (0, 24), .inl (0, 24), .inl (1, 9), .inr (2, [(3, 12), (3, 13), (3, 14), (3, 15), (3, 16), (3, 17), (3, 18), (3, 19), (3, 20), (0, 0), (0, 0), (0, 0), (0, 0), (0, 0)]), .inl (1, 24), .inl (0, 24), .inl (0, 60), .inl (0, 60), .inl (0, 24), .inl (0, 24), .inl (0, 24), .inl (0, 24), .inl (1, 9), .inr (2, [(3, 22), (3, 23), (3, 24), (3, 25), (3, 26), (3, 27), (3, 28), (3, 29), (3, 30), (0, 0), (0, 0), (0, 0), (0, 0), (0, 0)]), .inl (1, 24), .inl (0, 24), .inl (0, 60), .inl (0, 60), .inl (0, 24), .inl (0, 24), .inl (0, 24), .inl (0, 24), .inl (1, 9), .inl (3, 8), .inr (5, [(3, 33), (0, 0), (0, 0), (0, 0), (0, 0), (0, 0)]), .inl (2, 900), .inr (4, [(3, 35), (0, 0)]), .inl (2, 256), .inr (1, [(0, 0), (0, 0)]), .inr (3, [(3, 38), (3, 39), (3, 40), (0, 0)]), .inl (0, 30), .inl (0, 30), .inl (0, 30), .inr (6, [(3, 42), (0, 0), (0, 0), (0, 0), (0, 0), (0, 0), (0, 0)]), .inr (7, [(3, 43), (0, 0)]), .inl (0, 24), .inr (8, [(3, 45), (3, 47), (3, 48), (3, 49)]), .inr (7, [(3, 46), (0, 0)]), .inl (0, 24), .inl (0, 24), .inl (0, 24), .inl (0, 24), .inr (0, [(3, 51), (3, 52), (3, 53), (3, 54), (0, 0)]), .inl (0, 24), .inl (0, 24), .inl (0, 24), .inl (0, 24), .inr (9, [(3, 56)]), .inl (0, 24), .inr (2, [(3, 58), (3, 59), (3, 60), (3, 61), (3, 62), (3, 63), (3, 64), (3, 65), (3, 66), (0, 0), (0, 0), (0, 0), (0, 0), (0, 0)]), .inl (1, 24), .inl (0, 24), .inl (0, 60), .inl (0, 60), .inl (0, 24), .inl (0, 24), .inl (0, 24), .inl (0, 24), .inl (1, 9), .inr (2, [(3, 68), (3, 69), (3, 70), (3, 71), (3, 72), (3, 73), (3, 74), (3, 75), (3, 76), (0, 0), (0, 0), (0, 0), (0, 0), (0, 0)]), .inl (1, 24), .inl (0, 24), .inl (0, 60), .inl (0, 60), .inl (0, 24), .inl (0, 24), .inl (0, 24), .inl (0, 24), .inl (1, 9), .inr (2, [(3, 78), (3, 79), (3, 80), (3, 81), (3, 82), (3, 83), (3, 84), (3, 85), (3, 86), (0, 0), (0, 0), (0, 0), (0, 0), (0, 0)]), .inl (1, 24), .inl (0, 24), .inl (0, 60), .inl (0, 60), .inl (0, 24), .inl (0, 24), .inl (0, 24), .inl (0, 24), .inl (1, 9), .inr (2, [(3, 88), (3, 89), (3, 90), (3, 91), (3, 92), (3, 93), (3, 94), (3, 95), (3, 96), (0, 0), (0, 0), (0, 0), (0, 0), (0, 0)]), .inl (1, 24), .inl (0, 24), .inl (0, 60), .inl (0, 60), .inl (0, 24), .inl (0, 24), .inl (0, 24), .inl (0, 24), .inl (1, 9), .inr (2, [(3, 98), (3, 99), (3, 100), (3, 101), (3, 102), (3, 103), (3, 104), (3, 105), (3, 106), (0, 0), (0, 0), (0, 0), (0, 0), (0, 0)]), .inl (1, 24), .inl (0, 24), .inl (0, 60), .inl (0, 60), .inl (0, 24), .inl (0, 24), .inl (0, 24), .inl (0, 24), .inl (1, 9), .inr (2, [(3, 108), (3, 109), (3, 110), (3, 111), (3, 112), (3, 113), (3, 114), (3, 115), (3, 116), (0, 0), (0, 0), (0, 0), (0, 0), (0, 0)]), .inl (1, 24), .inl (0, 24), .inl (0, 60), .inl (0, 60), .inl (0, 24), .inl (0, 24), .inl (0, 24), .inl (0, 24), .inl (1, 9), .inr (2, [(3, 118), (3, 119), (3, 120), (3, 121), (3, 122), (3, 123), (3, 124), (3, 125), (3, 126), (0, 0), (0, 0), (0, 0), (0, 0), (0, 0)]), .inl (1, 24), .inl (0, 24), .inl (0, 60), .inl (0, 60), .inl (0, 24), .inl (0, 24), .inl (0, 24), .inl (0, 24), .inl (1, 9), .inr (2, [(3, 128), (3, 129), (3, 130), (3, 131), (3, 132), (3, 133), (3, 134), (3, 135), (3, 136), (0, 0), (0, 0), (0, 0), (0, 0), (0, 0)]), .inl (1, 24), .inl (0, 24), .inl (0, 60), .inl (0, 60), .inl (0, 24), .inl (0, 24), .inl (0, 24), .inl (0, 24), .inl (1, 9), .inl (1, 1)]
abbrev gShM : List gShp := [.inr (11, [(0, 0), (3, 1), (3, 2), (3, 3), (3, 4), (3, 5), (0, 0), (0, 0), (3, 6), (3, 7), (0, 0), (0, 0), (0, 0), (0, 0), (0, 0), (3, 8), (0, 0), (3, 9), (3, 10), (3, 11), (3, 12), (0, 0), (0, 0), (0, 0), (0, 0), (0, 0), (0, 0), (0, 0), (0, 0), (0, 0), (0, 0), (0, 0), (3, 13), (0, 0), (3, 14), (3, 15), (3, 16), (3, 17), (0, 0), (3, 18), (0, 0)]), .inl (0, 374), .inl (0, 374), .inl (0, 374), .inl (0, 374), .inl (0, 2992), .inl (0, 24), .inl (0, 24), .inl (0, 24), .inl (0, 24), .inl (0, 24), .inl (0, 24), .inl (0, 900), .inl (0, 90), .inl (0, 24), .inl (0, 24), .inl (0, 24), .inl (0, 24), .inl (0, 600)]
theorem sC_0 : gShC[0]? = some (.inr (10, [(3, 1), (3, 11), (3, 21), (0, 0), (3, 31), (0, 0), (3, 32), (3, 34), (3, 36), (3, 37), (3, 41), (3, 44), (3, 50), (3, 55)])) := rfl
theorem sC_1 : gShC[1]? = some (.inr (2, [(3, 2), (3, 3), (3, 4), (3, 5), (3, 6), (3, 7), (3, 8), (3, 9), (3, 10), (0, 0), (0, 0), (0, 0), (0, 0), (0, 0)])) := rfl
theorem sC_2 : gShC[2]? = some (.inl (1, 24)) := rfl
theorem sC_3 : gShC[3]? = some (.inl (0, 24)) := rfl
theorem sC_4 : gShC[4]? = some (.inl (0, 60)) := rfl
theorem sC_5 : gShC[5]? = some (.inl (0, 60)) := rfl
theorem sC_6 : gShC[6]? = some (.inl (0, 24)) := rfl
theorem sC_7 : gShC[7]? = some (.inl (0, 24)) := rfl
theorem sC_8 : gShC[8]? = some (.inl (0, 24)) := rfl
theorem sC_9 : gShC[9]? = some (.inl (0, 24)) := rfl
theorem sC_10 : gShC[10]? = some (.inl (1, 9)) := rfl
theorem sC_11 : gShC[11]? = some (.inr (2, [(3, 12), (3, 13), (3, 14), (3, 15), (3, 16), (3, 17), (3, 18), (3, 19), (3, 20), (0, 0), (0, 0), (0, 0), (0, 0), (0, 0)])) := rfl
theorem sC_12 : gShC[12]? = some (.inl (1, 24)) := rfl
theorem sC_13 : gShC[13]? = some (.inl (0, 24)) := rfl
theorem sC_14 : gShC[14]? = some (.inl (0, 60)) := rfl
theorem sC_15 : gShC[15]? = some (.inl (0, 60)) := rfl
theorem sC_16 : gShC[16]? = some (.inl (0, 24)) := rfl
theorem sC_17 : gShC[17]? = some (.inl (0, 24)) := rfl
theorem sC_18 : gShC[18]? = some (.inl (0, 24)) := rfl
theorem sC_19 : gShC[19]? = some (.inl (0, 24)) := rfl
theorem sC_20 : gShC[20]? = some (.inl (1, 9)) := rfl
theorem sC_21 : gShC[21]? = some (.inr (2, [(3, 22), (3, 23), (3, 24), (3, 25), (3, 26), (3, 27), (3, 28), (3, 29), (3, 30), (0, 0), (0, 0), (0, 0), (0, 0), (0, 0)])) := rfl
theorem sC_22 : gShC[22]? = some (.inl (1, 24)) := rfl
theorem sC_23 : gShC[23]? = some (.inl (0, 24)) := rfl
theorem sC_24 : gShC[24]? = some (.inl (0, 60)) := rfl
theorem sC_25 : gShC[25]? = some (.inl (0, 60)) := rfl
theorem sC_26 : gShC[26]? = some (.inl (0, 24)) := rfl
theorem sC_27 : gShC[27]? = some (.inl (0, 24)) := rfl
theorem sC_28 : gShC[28]? = some (.inl (0, 24)) := rfl
theorem sC_29 : gShC[29]? = some (.inl (0, 24)) := rfl
theorem sC_30 : gShC[30]? = some (.inl (1, 9)) := rfl
theorem sC_31 : gShC[31]? = some (.inl (3, 8)) := rfl
theorem sC_32 : gShC[32]? = some (.inr (5, [(3, 33), (0, 0), (0, 0), (0, 0), (0, 0), (0, 0)])) := rfl
theorem sC_33 : gShC[33]? = some (.inl (2, 900)) := rfl
theorem sC_34 : gShC[34]? = some (.inr (4, [(3, 35), (0, 0)])) := rfl
theorem sC_35 : gShC[35]? = some (.inl (2, 256)) := rfl
theorem sC_36 : gShC[36]? = some (.inr (1, [(0, 0), (0, 0)])) := rfl
theorem sC_37 : gShC[37]? = some (.inr (3, [(3, 38), (3, 39), (3, 40), (0, 0)])) := rfl
theorem sC_38 : gShC[38]? = some (.inl (0, 30)) := rfl
theorem sC_39 : gShC[39]? = some (.inl (0, 30)) := rfl
theorem sC_40 : gShC[40]? = some (.inl (0, 30)) := rfl
theorem sC_41 : gShC[41]? = some (.inr (6, [(3, 42), (0, 0), (0, 0), (0, 0), (0, 0), (0, 0), (0, 0)])) := rfl
theorem sC_42 : gShC[42]? = some (.inr (7, [(3, 43), (0, 0)])) := rfl
theorem sC_43 : gShC[43]? = some (.inl (0, 24)) := rfl
theorem sC_44 : gShC[44]? = some (.inr (8, [(3, 45), (3, 47), (3, 48), (3, 49)])) := rfl
theorem sC_45 : gShC[45]? = some (.inr (7, [(3, 46), (0, 0)])) := rfl
theorem sC_46 : gShC[46]? = some (.inl (0, 24)) := rfl
theorem sC_47 : gShC[47]? = some (.inl (0, 24)) := rfl
theorem sC_48 : gShC[48]? = some (.inl (0, 24)) := rfl
theorem sC_49 : gShC[49]? = some (.inl (0, 24)) := rfl
theorem sC_50 : gShC[50]? = some (.inr (0, [(3, 51), (3, 52), (3, 53), (3, 54), (0, 0)])) := rfl
theorem sC_51 : gShC[51]? = some (.inl (0, 24)) := rfl
theorem sC_52 : gShC[52]? = some (.inl (0, 24)) := rfl
theorem sC_53 : gShC[53]? = some (.inl (0, 24)) := rfl
theorem sC_54 : gShC[54]? = some (.inl (0, 24)) := rfl
theorem sC_55 : gShC[55]? = some (.inr (9, [(3, 56)])) := rfl
theorem sC_56 : gShC[56]? = some (.inl (0, 24)) := rfl
theorem sC_57 : gShC[57]? = some (.inr (2, [(3, 58), (3, 59), (3, 60), (3, 61), (3, 62), (3, 63), (3, 64), (3, 65), (3, 66), (0, 0), (0, 0), (0, 0), (0, 0), (0, 0)])) := rfl
theorem sC_58 : gShC[58]? = some (.inl (1, 24)) := rfl
theorem sC_59 : gShC[59]? = some (.inl (0, 24)) := rfl
theorem sC_60 : gShC[60]? = some (.inl (0, 60)) := rfl
theorem sC_61 : gShC[61]? = some (.inl (0, 60)) := rfl
theorem sC_62 : gShC[62]? = some (.inl (0, 24)) := rfl
theorem sC_63 : gShC[63]? = some (.inl (0, 24)) := rfl
theorem sC_64 : gShC[64]? = some (.inl (0, 24)) := rfl
theorem sC_65 : gShC[65]? = some (.inl (0, 24)) := rfl
theorem sC_66 : gShC[66]? = some (.inl (1, 9)) := rfl
theorem sC_67 : gShC[67]? = some (.inr (2, [(3, 68), (3, 69), (3, 70), (3, 71), (3, 72), (3, 73), (3, 74), (3, 75), (3, 76), (0, 0), (0, 0), (0, 0), (0, 0), (0, 0)])) := rfl
theorem sC_68 : gShC[68]? = some (.inl (1, 24)) := rfl
theorem sC_69 : gShC[69]? = some (.inl (0, 24)) := rfl
theorem sC_70 : gShC[70]? = some (.inl (0, 60)) := rfl
theorem sC_71 : gShC[71]? = some (.inl (0, 60)) := rfl
theorem sC_72 : gShC[72]? = some (.inl (0, 24)) := rfl
theorem sC_73 : gShC[73]? = some (.inl (0, 24)) := rfl
theorem sC_74 : gShC[74]? = some (.inl (0, 24)) := rfl
theorem sC_75 : gShC[75]? = some (.inl (0, 24)) := rfl
theorem sC_76 : gShC[76]? = some (.inl (1, 9)) := rfl
theorem sC_77 : gShC[77]? = some (.inr (2, [(3, 78), (3, 79), (3, 80), (3, 81), (3, 82), (3, 83), (3, 84), (3, 85), (3, 86), (0, 0), (0, 0), (0, 0), (0, 0), (0, 0)])) := rfl
theorem sC_78 : gShC[78]? = some (.inl (1, 24)) := rfl
theorem sC_79 : gShC[79]? = some (.inl (0, 24)) := rfl
theorem sC_80 : gShC[80]? = some (.inl (0, 60)) := rfl
theorem sC_81 : gShC[81]? = some (.inl (0, 60)) := rfl
theorem sC_82 : gShC[82]? = some (.inl (0, 24)) := rfl
theorem sC_83 : gShC[83]? = some (.inl (0, 24)) := rfl
theorem sC_84 : gShC[84]? = some (.inl (0, 24)) := rfl
theorem sC_85 : gShC[85]? = some (.inl (0, 24)) := rfl
theorem sC_86 : gShC[86]? = some (.inl (1, 9)) := rfl
theorem sC_87 : gShC[87]? = some (.inr (2, [(3, 88), (3, 89), (3, 90), (3, 91), (3, 92), (3, 93), (3, 94), (3, 95), (3, 96), (0, 0), (0, 0), (0, 0), (0, 0), (0, 0)])) := rfl
theorem sC_88 : gShC[88]? = some (.inl (1, 24)) := rfl
theorem sC_89 : gShC[89]? = some (.inl (0, 24)) := rfl
theorem sC_90 : gShC[90]? = some (.inl (0, 60)) := rfl
theorem sC_91 : gShC[91]? = some (.inl (0, 60)) := rfl
theorem sC_92 : gShC[92]? = some (.inl (0, 24)) := rfl
theorem sC_93 : gShC[93]? = some (.inl (0, 24)) := rfl
theorem sC_94 : gShC[94]? = some (.inl (0, 24)) := rfl
theorem sC_95 : gShC[95]? = some (.inl (0, 24)) := rfl
theorem sC_96 : gShC[96]? = some (.inl (1, 9)) := rfl
theorem sC_97 : gShC[97]? = some (.inr (2, [(3, 98), (3, 99), (3, 100), (3, 101), (3, 102), (3, 103), (3, 104), (3, 105), (3, 106), (0, 0), (0, 0), (0, 0), (0, 0), (0, 0)])) := rfl
theorem sC_98 : gShC[98]? = some (.inl (1, 24)) := rfl
theorem sC_99 : gShC[99]? = some (.inl (0, 24)) := rfl
theorem sC_100 : gShC[100]? = some (.inl (0, 60)) := rfl
theorem sC_101 : gShC[101]? = some (.inl (0, 60)) := rfl
theorem sC_102 : gShC[102]? = some (.inl (0, 24)) := rfl
theorem sC_103 : gShC[103]? = some (.inl (0, 24)) := rfl
theorem sC_104 : gShC[104]? = some (.inl (0, 24)) := rfl
theorem sC_105 : gShC[105]? = some (.inl (0, 24)) := rfl
theorem sC_106 : gShC[106]? = some (.inl (1, 9)) := rfl
theorem sC_107 : gShC[107]? = some (.inr (2, [(3, 108), (3, 109), (3, 110), (3, 111), (3, 112), (3, 113), (3, 114), (3, 115), (3, 116), (0, 0), (0, 0), (0, 0), (0, 0), (0, 0)])) := rfl
theorem sC_108 : gShC[108]? = some (.inl (1, 24)) := rfl
theorem sC_109 : gShC[109]? = some (.inl (0, 24)) := rfl
theorem sC_110 : gShC[110]? = some (.inl (0, 60)) := rfl
theorem sC_111 : gShC[111]? = some (.inl (0, 60)) := rfl
theorem sC_112 : gShC[112]? = some (.inl (0, 24)) := rfl
theorem sC_113 : gShC[113]? = some (.inl (0, 24)) := rfl
theorem sC_114 : gShC[114]? = some (.inl (0, 24)) := rfl
theorem sC_115 : gShC[115]? = some (.inl (0, 24)) := rfl
theorem sC_116 : gShC[116]? = some (.inl (1, 9)) := rfl
theorem sC_117 : gShC[117]? = some (.inr (2, [(3, 118), (3, 119), (3, 120), (3, 121), (3, 122), (3, 123), (3, 124), (3, 125), (3, 126), (0, 0), (0, 0), (0, 0), (0, 0), (0, 0)])) := rfl
theorem sC_118 : gShC[118]? = some (.inl (1, 24)) := rfl
theorem sC_119 : gShC[119]? = some (.inl (0, 24)) := rfl
theorem sC_120 : gShC[120]? = some (.inl (0, 60)) := rfl
theorem sC_121 : gShC[121]? = some (.inl (0, 60)) := rfl
theorem sC_122 : gShC[122]? = some (.inl (0, 24)) := rfl
theorem sC_123 : gShC[123]? = some (.inl (0, 24)) := rfl
theorem sC_124 : gShC[124]? = some (.inl (0, 24)) := rfl
theorem sC_125 : gShC[125]? = some (.inl (0, 24)) := rfl
theorem sC_126 : gShC[126]? = some (.inl (1, 9)) := rfl
theorem sC_127 : gShC[127]? = some (.inr (2, [(3, 128), (3, 129), (3, 130), (3, 131), (3, 132), (3, 133), (3, 134), (3, 135), (3, 136), (0, 0), (0, 0), (0, 0), (0, 0), (0, 0)])) := rfl
theorem sC_128 : gShC[128]? = some (.inl (1, 24)) := rfl
theorem sC_129 : gShC[129]? = some (.inl (0, 24)) := rfl
theorem sC_130 : gShC[130]? = some (.inl (0, 60)) := rfl
theorem sC_131 : gShC[131]? = some (.inl (0, 60)) := rfl
theorem sC_132 : gShC[132]? = some (.inl (0, 24)) := rfl
theorem sC_133 : gShC[133]? = some (.inl (0, 24)) := rfl
theorem sC_134 : gShC[134]? = some (.inl (0, 24)) := rfl
theorem sC_135 : gShC[135]? = some (.inl (0, 24)) := rfl
theorem sC_136 : gShC[136]? = some (.inl (1, 9)) := rfl
theorem sC_137 : gShC[137]? = some (.inl (1, 1)) := rfl
theorem sM_0 : gShM[0]? = some (.inr (11, [(0, 0), (3, 1), (3, 2), (3, 3), (3, 4), (3, 5), (0, 0), (0, 0), (3, 6), (3, 7), (0, 0), (0, 0), (0, 0), (0, 0), (0, 0), (3, 8), (0, 0), (3, 9), (3, 10), (3, 11), (3, 12), (0, 0), (0, 0), (0, 0), (0, 0), (0, 0), (0, 0), (0, 0), (0, 0), (0, 0), (0, 0), (0, 0), (3, 13), (0, 0), (3, 14), (3, 15), (3, 16), (3, 17), (0, 0), (3, 18), (0, 0)])) := rfl
theorem sM_1 : gShM[1]? = some (.inl (0, 374)) := rfl
theorem sM_2 : gShM[2]? = some (.inl (0, 374)) := rfl
theorem sM_3 : gShM[3]? = some (.inl (0, 374)) := rfl
theorem sM_4 : gShM[4]? = some (.inl (0, 374)) := rfl
theorem sM_5 : gShM[5]? = some (.inl (0, 2992)) := rfl
theorem sM_6 : gShM[6]? = some (.inl (0, 24)) := rfl
theorem sM_7 : gShM[7]? = some (.inl (0, 24)) := rfl
theorem sM_8 : gShM[8]? = some (.inl (0, 24)) := rfl
theorem sM_9 : gShM[9]? = some (.inl (0, 24)) := rfl
theorem sM_10 : gShM[10]? = some (.inl (0, 24)) := rfl
theorem sM_11 : gShM[11]? = some (.inl (0, 24)) := rfl
theorem sM_12 : gShM[12]? = some (.inl (0, 900)) := rfl
theorem sM_13 : gShM[13]? = some (.inl (0, 90)) := rfl
theorem sM_14 : gShM[14]? = some (.inl (0, 24)) := rfl
theorem sM_15 : gShM[15]? = some (.inl (0, 24)) := rfl
theorem sM_16 : gShM[16]? = some (.inl (0, 24)) := rfl
theorem sM_17 : gShM[17]? = some (.inl (0, 24)) := rfl
theorem sM_18 : gShM[18]? = some (.inl (0, 600)) := rfl
/-- a Net, a Row at a cell -/
def gNet (Sh : List gShp) (t : Nat) : Prop := Sh[t]? = some (.inr (2, [(3, (t + 1)), (3, (t + 2)), (3, (t + 3)), (3, (t + 4)), (3, (t + 5)), (3, (t + 6)), (3, (t + 7)), (3, (t + 8)), (3, (t + 9)), (0, 0), (0, 0), (0, 0), (0, 0), (0, 0)])) ∧ Sh[t + 1]? = some (.inl (1, 24)) ∧ Sh[t + 2]? = some (.inl (0, 24)) ∧ Sh[t + 3]? = some (.inl (0, 60)) ∧ Sh[t + 4]? = some (.inl (0, 60)) ∧ Sh[t + 5]? = some (.inl (0, 24)) ∧ Sh[t + 6]? = some (.inl (0, 24)) ∧ Sh[t + 7]? = some (.inl (0, 24)) ∧ Sh[t + 8]? = some (.inl (0, 24)) ∧ Sh[t + 9]? = some (.inl (1, 9))
def gRow (Sh : List gShp) (t : Nat) : Prop := Sh[t]? = some (.inr (7, [(3, (t + 1)), (0, 0)])) ∧ Sh[t + 1]? = some (.inl (0, 24))
def gNb (t : Nat) : Bool := [1, 11, 21, 57, 67, 77, 87, 97, 107, 117, 127].contains t
theorem nC_1 : gNet gShC 1 := ⟨sC_1, sC_2, sC_3, sC_4, sC_5, sC_6, sC_7, sC_8, sC_9, sC_10⟩
theorem nC_11 : gNet gShC 11 := ⟨sC_11, sC_12, sC_13, sC_14, sC_15, sC_16, sC_17, sC_18, sC_19, sC_20⟩
theorem nC_21 : gNet gShC 21 := ⟨sC_21, sC_22, sC_23, sC_24, sC_25, sC_26, sC_27, sC_28, sC_29, sC_30⟩
theorem nC_57 : gNet gShC 57 := ⟨sC_57, sC_58, sC_59, sC_60, sC_61, sC_62, sC_63, sC_64, sC_65, sC_66⟩
theorem nC_67 : gNet gShC 67 := ⟨sC_67, sC_68, sC_69, sC_70, sC_71, sC_72, sC_73, sC_74, sC_75, sC_76⟩
theorem nC_77 : gNet gShC 77 := ⟨sC_77, sC_78, sC_79, sC_80, sC_81, sC_82, sC_83, sC_84, sC_85, sC_86⟩
theorem nC_87 : gNet gShC 87 := ⟨sC_87, sC_88, sC_89, sC_90, sC_91, sC_92, sC_93, sC_94, sC_95, sC_96⟩
theorem nC_97 : gNet gShC 97 := ⟨sC_97, sC_98, sC_99, sC_100, sC_101, sC_102, sC_103, sC_104, sC_105, sC_106⟩
theorem nC_107 : gNet gShC 107 := ⟨sC_107, sC_108, sC_109, sC_110, sC_111, sC_112, sC_113, sC_114, sC_115, sC_116⟩
theorem nC_117 : gNet gShC 117 := ⟨sC_117, sC_118, sC_119, sC_120, sC_121, sC_122, sC_123, sC_124, sC_125, sC_126⟩
theorem nC_127 : gNet gShC 127 := ⟨sC_127, sC_128, sC_129, sC_130, sC_131, sC_132, sC_133, sC_134, sC_135, sC_136⟩
theorem gNb_ok {t : Nat} (h : gNb t = true) : gNet gShC t := by
  unfold gNb at h
  simp only [List.contains_cons, Bool.or_eq_true, beq_iff_eq, List.contains_nil, Bool.false_eq_true, or_false] at h
  rcases h with rfl | rfl | rfl | rfl | rfl | rfl | rfl | rfl | rfl | rfl | rfl
  · exact nC_1
  · exact nC_11
  · exact nC_21
  · exact nC_57
  · exact nC_67
  · exact nC_77
  · exact nC_87
  · exact nC_97
  · exact nC_107
  · exact nC_117
  · exact nC_127
theorem wC_42 : gRow gShC 42 := ⟨sC_42, sC_43⟩
theorem wC_45 : gRow gShC 45 := ⟨sC_45, sC_46⟩
theorem iX0 : ∀ w ∈ u_ws RX0 TX0 5, w ∈ gBW := fun w h => gBW_of (List.mem_append_right _ ((show ∀ w ∈ u_ws RX0 TX0 5, w ∈ tables_1 by decide +kernel) w h)) ((show ∀ w ∈ u_ws RX0 TX0 5, goodWord w = true by decide +kernel) w h)
theorem jX0 : gFt tyX0 TX0 5 := ⟨tyX0_ok, nmX0⟩
theorem iX1 : ∀ w ∈ u_ws RX1 TX1 2, w ∈ gBW := fun w h => gBW_of (List.mem_append_right _ ((show ∀ w ∈ u_ws RX1 TX1 2, w ∈ tables_1 by decide +kernel) w h)) ((show ∀ w ∈ u_ws RX1 TX1 2, goodWord w = true by decide +kernel) w h)
theorem jX1 : gFt tyX1 TX1 2 := ⟨tyX1_ok, nmX1⟩
theorem iX2 : ∀ w ∈ u_ws RX2 TX2 14, w ∈ gBW := fun w h => gBW_of (List.mem_append_right _ ((show ∀ w ∈ u_ws RX2 TX2 14, w ∈ tables_1 by decide +kernel) w h)) ((show ∀ w ∈ u_ws RX2 TX2 14, goodWord w = true by decide +kernel) w h)
theorem jX2 : gFt tyX2 TX2 14 := ⟨tyX2_ok, nmX2⟩
theorem iX3 : ∀ w ∈ u_ws RX3 TX3 4, w ∈ gBW := fun w h => gBW_of (List.mem_append_right _ ((show ∀ w ∈ u_ws RX3 TX3 4, w ∈ tables_1 by decide +kernel) w h)) ((show ∀ w ∈ u_ws RX3 TX3 4, goodWord w = true by decide +kernel) w h)
theorem jX3 : gFt tyX3 TX3 4 := ⟨tyX3_ok, nmX3⟩
theorem iX4 : ∀ w ∈ u_ws RX4 TX4 2, w ∈ gBW := fun w h => gBW_of (List.mem_append_right _ ((show ∀ w ∈ u_ws RX4 TX4 2, w ∈ tables_1 by decide +kernel) w h)) ((show ∀ w ∈ u_ws RX4 TX4 2, goodWord w = true by decide +kernel) w h)
theorem jX4 : gFt tyX4 TX4 2 := ⟨tyX4_ok, nmX4⟩
theorem iX5 : ∀ w ∈ u_ws RX5 TX5 6, w ∈ gBW := fun w h => gBW_of (List.mem_append_right _ ((show ∀ w ∈ u_ws RX5 TX5 6, w ∈ tables_1 by decide +kernel) w h)) ((show ∀ w ∈ u_ws RX5 TX5 6, goodWord w = true by decide +kernel) w h)
theorem jX5 : gFt tyX5 TX5 6 := ⟨tyX5_ok, nmX5⟩
theorem iX6 : ∀ w ∈ u_ws RX6 TX6 7, w ∈ gBW := fun w h => gBW_of (List.mem_append_right _ ((show ∀ w ∈ u_ws RX6 TX6 7, w ∈ tables_1 by decide +kernel) w h)) ((show ∀ w ∈ u_ws RX6 TX6 7, goodWord w = true by decide +kernel) w h)
theorem jX6 : gFt tyX6 TX6 7 := ⟨tyX6_ok, nmX6⟩
theorem iX7 : ∀ w ∈ u_ws RX7 TX7 2, w ∈ gBW := fun w h => gBW_of (List.mem_append_right _ ((show ∀ w ∈ u_ws RX7 TX7 2, w ∈ tables_1 by decide +kernel) w h)) ((show ∀ w ∈ u_ws RX7 TX7 2, goodWord w = true by decide +kernel) w h)
theorem jX7 : gFt tyX7 TX7 2 := ⟨tyX7_ok, nmX7⟩
theorem iX8 : ∀ w ∈ u_ws RX8 TX8 4, w ∈ gBW := fun w h => gBW_of (List.mem_append_right _ ((show ∀ w ∈ u_ws RX8 TX8 4, w ∈ tables_1 by decide +kernel) w h)) ((show ∀ w ∈ u_ws RX8 TX8 4, goodWord w = true by decide +kernel) w h)
theorem jX8 : gFt tyX8 TX8 4 := ⟨tyX8_ok, nmX8⟩
theorem iX9 : ∀ w ∈ u_ws RX9 TX9 1, w ∈ gBW := fun w h => gBW_of (List.mem_append_right _ ((show ∀ w ∈ u_ws RX9 TX9 1, w ∈ tables_1 by decide +kernel) w h)) ((show ∀ w ∈ u_ws RX9 TX9 1, goodWord w = true by decide +kernel) w h)
theorem jX9 : gFt tyX9 TX9 1 := ⟨tyX9_ok, nmX9⟩
theorem iX10 : ∀ w ∈ u_ws RX10 TX10 14, w ∈ gBW := fun w h => gBW_of (List.mem_append_right _ ((show ∀ w ∈ u_ws RX10 TX10 14, w ∈ tables_1 by decide +kernel) w h)) ((show ∀ w ∈ u_ws RX10 TX10 14, goodWord w = true by decide +kernel) w h)
theorem jX10 : gFt tyX10 TX10 14 := ⟨tyX10_ok, nmX10⟩
theorem iX11 : ∀ w ∈ u_ws RX11 TX11 41, w ∈ gBW := fun w h => gBW_of (List.mem_append_right _ ((show ∀ w ∈ u_ws RX11 TX11 41, w ∈ tables_1 by decide +kernel) w h)) ((show ∀ w ∈ u_ws RX11 TX11 41, goodWord w = true by decide +kernel) w h)
theorem jX11 : gFt tyX11 TX11 41 := ⟨tyX11_ok, nmX11⟩
theorem FX2_9 : gFl RX2 9 2 0 RX2 TX2 14 := ⟨rfl, by decide, iX2, gT1 41 rfl rfl, rfl⟩
theorem FX4_45 : gFl RX4 45 2 0 RX2 TX2 14 := ⟨rfl, by decide, iX2, gT1 42 rfl rfl, rfl⟩
theorem FX10_204 : gFl RX10 204 2 0 RX2 TX2 14 := ⟨rfl, by decide, iX2, gT1 43 rfl rfl, rfl⟩
theorem FX2_15 : gFl RX2 15 2 1 RX2 TX2 14 := ⟨rfl, by decide, iX2, gT1 44 rfl rfl, rfl⟩
theorem FX0_42 : gFl RX0 42 2 1 RX2 TX2 14 := ⟨rfl, by decide, iX2, gT1 45 rfl rfl, rfl⟩
theorem FX3_104 : gFl RX3 104 2 1 RX2 TX2 14 := ⟨rfl, by decide, iX2, gT1 46 rfl rfl, rfl⟩
theorem FX10_173 : gFl RX10 173 2 1 RX2 TX2 14 := ⟨rfl, by decide, iX2, gT1 47 rfl rfl, rfl⟩
theorem FX2_19 : gFl RX2 19 2 2 RX2 TX2 14 := ⟨rfl, by decide, iX2, gT1 48 rfl rfl, rfl⟩
theorem FX6_68 : gFl RX6 68 2 2 RX2 TX2 14 := ⟨rfl, by decide, iX2, gT1 49 rfl rfl, rfl⟩
theorem FX0_65 : gFl RX0 65 2 2 RX2 TX2 14 := ⟨rfl, by decide, iX2, gT1 50 rfl rfl, rfl⟩
theorem FX8_70 : gFl RX8 70 2 2 RX2 TX2 14 := ⟨rfl, by decide, iX2, gT1 51 rfl rfl, rfl⟩
theorem FX10_243 : gFl RX10 243 2 2 RX2 TX2 14 := ⟨rfl, by decide, iX2, gT1 52 rfl rfl, rfl⟩
theorem FX2_22 : gFl RX2 22 2 3 RX2 TX2 14 := ⟨rfl, by decide, iX2, gT1 53 rfl rfl, rfl⟩
theorem FX0_62 : gFl RX0 62 2 3 RX2 TX2 14 := ⟨rfl, by decide, iX2, gT1 54 rfl rfl, rfl⟩
theorem FX6_71 : gFl RX6 71 2 3 RX2 TX2 14 := ⟨rfl, by decide, iX2, gT1 55 rfl rfl, rfl⟩
theorem FX8_73 : gFl RX8 73 2 3 RX2 TX2 14 := ⟨rfl, by decide, iX2, gT1 56 rfl rfl, rfl⟩
theorem FX10_246 : gFl RX10 246 2 3 RX2 TX2 14 := ⟨rfl, by decide, iX2, gT1 57 rfl rfl, rfl⟩
theorem FX2_25 : gFl RX2 25 2 4 RX2 TX2 14 := ⟨rfl, by decide, iX2, gT1 58 rfl rfl, rfl⟩
theorem FX9_27 : gFl RX9 27 2 4 RX2 TX2 14 := ⟨rfl, by decide, iX2, gT1 59 rfl rfl, rfl⟩
theorem FX10_187 : gFl RX10 187 2 4 RX2 TX2 14 := ⟨rfl, by decide, iX2, gT1 60 rfl rfl, rfl⟩
theorem FX2_28 : gFl RX2 28 2 5 RX2 TX2 14 := ⟨rfl, by decide, iX2, gT1 61 rfl rfl, rfl⟩
theorem FX6_43 : gFl RX6 43 2 5 RX2 TX2 14 := ⟨rfl, by decide, iX2, gT1 62 rfl rfl, rfl⟩
theorem FX8_104 : gFl RX8 104 2 5 RX2 TX2 14 := ⟨rfl, by decide, iX2, gT1 63 rfl rfl, rfl⟩
theorem FX10_198 : gFl RX10 198 2 5 RX2 TX2 14 := ⟨rfl, by decide, iX2, gT1 64 rfl rfl, rfl⟩
theorem FX2_31 : gFl RX2 31 2 6 RX2 TX2 14 := ⟨rfl, by decide, iX2, gT1 65 rfl rfl, rfl⟩
theorem FX6_50 : gFl RX6 50 2 6 RX2 TX2 14 := ⟨rfl, by decide, iX2, gT1 66 rfl rfl, rfl⟩
theorem FX8_51 : gFl RX8 51 2 6 RX2 TX2 14 := ⟨rfl, by decide, iX2, gT1 67 rfl rfl, rfl⟩
theorem FX7_23 : gFl RX7 23 2 6 RX2 TX2 14 := ⟨rfl, by decide, iX2, gT1 68 rfl rfl, rfl⟩
theorem FX10_177 : gFl RX10 177 2 6 RX2 TX2 14 := ⟨rfl, by decide, iX2, gT1 69 rfl rfl, rfl⟩
theorem FX2_34 : gFl RX2 34 2 7 RX2 TX2 14 := ⟨rfl, by decide, iX2, gT1 70 rfl rfl, rfl⟩
theorem FX6_37 : gFl RX6 37 2 7 RX2 TX2 14 := ⟨rfl, by decide, iX2, gT1 71 rfl rfl, rfl⟩
theorem FX0_39 : gFl RX0 39 2 7 RX2 TX2 14 := ⟨rfl, by decide, iX2, gT1 72 rfl rfl, rfl⟩
theorem FX8_67 : gFl RX8 67 2 7 RX2 TX2 14 := ⟨rfl, by decide, iX2, gT1 73 rfl rfl, rfl⟩
theorem FX10_180 : gFl RX10 180 2 7 RX2 TX2 14 := ⟨rfl, by decide, iX2, gT1 74 rfl rfl, rfl⟩
theorem FX2_37 : gFl RX2 37 2 8 RX2 TX2 14 := ⟨rfl, by decide, iX2, gT1 75 rfl rfl, rfl⟩
theorem FX8_100 : gFl RX8 100 2 8 RX2 TX2 14 := ⟨rfl, by decide, iX2, gT1 76 rfl rfl, rfl⟩
theorem FX6_129 : gFl RX6 129 2 8 RX2 TX2 14 := ⟨rfl, by decide, iX2, gT1 77 rfl rfl, rfl⟩
theorem FX10_339 : gFl RX10 339 2 8 RX2 TX2 14 := ⟨rfl, by decide, iX2, gT1 78 rfl rfl, rfl⟩
theorem FX2_40 : gFl RX2 40 2 9 RX2 TX2 14 := ⟨rfl, by decide, iX2, gT1 79 rfl rfl, rfl⟩
theorem FX9_21 : gFl RX9 21 2 9 RX2 TX2 14 := ⟨rfl, by decide, iX2, gT1 80 rfl rfl, rfl⟩
theorem FX0_34 : gFl RX0 34 2 9 RX2 TX2 14 := ⟨rfl, by decide, iX2, gT1 81 rfl rfl, rfl⟩
theorem FX1_58 : gFl RX1 58 2 9 RX2 TX2 14 := ⟨rfl, by decide, iX2, gT1 82 rfl rfl, rfl⟩
theorem FX4_33 : gFl RX4 33 2 9 RX2 TX2 14 := ⟨rfl, by decide, iX2, gT1 83 rfl rfl, rfl⟩
theorem FX10_125 : gFl RX10 125 2 9 RX2 TX2 14 := ⟨rfl, by decide, iX2, gT1 84 rfl rfl, rfl⟩
theorem FX8_76 : gFl RX8 76 2 9 RX2 TX2 14 := ⟨rfl, by decide, iX2, gT1 85 rfl rfl, rfl⟩
theorem FX2_44 : gFl RX2 44 2 10 RX2 TX2 14 := ⟨rfl, by decide, iX2, gT1 86 rfl rfl, rfl⟩
theorem FX6_61 : gFl RX6 61 2 10 RX2 TX2 14 := ⟨rfl, by decide, iX2, gT1 87 rfl rfl, rfl⟩
theorem FX0_59 : gFl RX0 59 2 10 RX2 TX2 14 := ⟨rfl, by decide, iX2, gT1 88 rfl rfl, rfl⟩
theorem FX8_64 : gFl RX8 64 2 10 RX2 TX2 14 := ⟨rfl, by decide, iX2, gT1 89 rfl rfl, rfl⟩
theorem FX1_100 : gFl RX1 100 2 10 RX2 TX2 14 := ⟨rfl, by decide, iX2, gT1 90 rfl rfl, rfl⟩
theorem FX10_146 : gFl RX10 146 2 10 RX2 TX2 14 := ⟨rfl, by decide, iX2, gT1 91 rfl rfl, rfl⟩
theorem FX2_47 : gFl RX2 47 2 11 RX2 TX2 14 := ⟨rfl, by decide, iX2, gT1 92 rfl rfl, rfl⟩
theorem FX8_28 : gFl RX8 28 2 11 RX2 TX2 14 := ⟨rfl, by decide, iX2, gT1 93 rfl rfl, rfl⟩
theorem FX0_43 : gFl RX0 43 2 11 RX2 TX2 14 := ⟨rfl, by decide, iX2, gT1 94 rfl rfl, rfl⟩
theorem FX6_92 : gFl RX6 92 2 11 RX2 TX2 14 := ⟨rfl, by decide, iX2, gT1 95 rfl rfl, rfl⟩
theorem FX10_149 : gFl RX10 149 2 11 RX2 TX2 14 := ⟨rfl, by decide, iX2, gT1 96 rfl rfl, rfl⟩
theorem FX3_137 : gFl RX3 137 2 11 RX2 TX2 14 := ⟨rfl, by decide, iX2, gT1 97 rfl rfl, rfl⟩
theorem FX2_50 : gFl RX2 50 2 12 RX2 TX2 14 := ⟨rfl, by decide, iX2, gT1 98 rfl rfl, rfl⟩
theorem FX1_116 : gFl RX1 116 2 12 RX2 TX2 14 := ⟨rfl, by decide, iX2, gT1 99 rfl rfl, rfl⟩
theorem FX10_152 : gFl RX10 152 2 12 RX2 TX2 14 := ⟨rfl, by decide, iX2, gT1 100 rfl rfl, rfl⟩
theorem FX3_112 : gFl RX3 112 2 12 RX2 TX2 14 := ⟨rfl, by decide, iX2, gT1 101 rfl rfl, rfl⟩
theorem FX6_119 : gFl RX6 119 2 12 RX2 TX2 14 := ⟨rfl, by decide, iX2, gT1 102 rfl rfl, rfl⟩
theorem FX2_53 : gFl RX2 53 2 13 RX2 TX2 14 := ⟨rfl, by decide, iX2, gT1 103 rfl rfl, rfl⟩
theorem FX1_118 : gFl RX1 118 2 13 RX2 TX2 14 := ⟨rfl, by decide, iX2, gT1 104 rfl rfl, rfl⟩
theorem FX10_155 : gFl RX10 155 2 13 RX2 TX2 14 := ⟨rfl, by decide, iX2, gT1 105 rfl rfl, rfl⟩
theorem FX3_114 : gFl RX3 114 2 13 RX2 TX2 14 := ⟨rfl, by decide, iX2, gT1 106 rfl rfl, rfl⟩
theorem FX5_9 : gFl RX5 9 5 0 RX5 TX5 6 := ⟨rfl, by decide, iX5, gT1 145 rfl rfl, rfl⟩
theorem FX5_15 : gFl RX5 15 5 1 RX5 TX5 6 := ⟨rfl, by decide, iX5, gT1 146 rfl rfl, rfl⟩
theorem FX10_96 : gFl RX10 96 5 1 RX5 TX5 6 := ⟨rfl, by decide, iX5, gT1 147 rfl rfl, rfl⟩
theorem FX5_19 : gFl RX5 19 5 2 RX5 TX5 6 := ⟨rfl, by decide, iX5, gT1 148 rfl rfl, rfl⟩
theorem FX5_22 : gFl RX5 22 5 3 RX5 TX5 6 := ⟨rfl, by decide, iX5, gT1 149 rfl rfl, rfl⟩
theorem FX3_51 : gFl RX3 51 5 3 RX5 TX5 6 := ⟨rfl, by decide, iX5, gT1 150 rfl rfl, rfl⟩
theorem FX1_62 : gFl RX1 62 5 3 RX5 TX5 6 := ⟨rfl, by decide, iX5, gT1 151 rfl rfl, rfl⟩
theorem FX5_25 : gFl RX5 25 5 4 RX5 TX5 6 := ⟨rfl, by decide, iX5, gT1 152 rfl rfl, rfl⟩
theorem FX10_140 : gFl RX10 140 5 4 RX5 TX5 6 := ⟨rfl, by decide, iX5, gT1 153 rfl rfl, rfl⟩
theorem FX5_28 : gFl RX5 28 5 5 RX5 TX5 6 := ⟨rfl, by decide, iX5, gT1 154 rfl rfl, rfl⟩
theorem FX10_143 : gFl RX10 143 5 5 RX5 TX5 6 := ⟨rfl, by decide, iX5, gT1 155 rfl rfl, rfl⟩
theorem FX4_9 : gFl RX4 9 4 0 RX4 TX4 2 := ⟨rfl, by decide, iX4, gT1 176 rfl rfl, rfl⟩
theorem FX10_381 : gFl RX10 381 4 0 RX4 TX4 2 := ⟨rfl, by decide, iX4, gT1 177 rfl rfl, rfl⟩
theorem FX4_15 : gFl RX4 15 4 1 RX4 TX4 2 := ⟨rfl, by decide, iX4, gT1 178 rfl rfl, rfl⟩
theorem FX10_370 : gFl RX10 370 4 1 RX4 TX4 2 := ⟨rfl, by decide, iX4, gT1 179 rfl rfl, rfl⟩
theorem FX1_9 : gFl RX1 9 1 0 RX1 TX1 2 := ⟨rfl, by decide, iX1, gT1 191 rfl rfl, rfl⟩
theorem FX1_15 : gFl RX1 15 1 1 RX1 TX1 2 := ⟨rfl, by decide, iX1, gT1 192 rfl rfl, rfl⟩
theorem FX3_9 : gFl RX3 9 3 0 RX3 TX3 4 := ⟨rfl, by decide, iX3, gT1 204 rfl rfl, rfl⟩
theorem FX3_15 : gFl RX3 15 3 1 RX3 TX3 4 := ⟨rfl, by decide, iX3, gT1 205 rfl rfl, rfl⟩
theorem FX3_18 : gFl RX3 18 3 2 RX3 TX3 4 := ⟨rfl, by decide, iX3, gT1 206 rfl rfl, rfl⟩
theorem FX3_21 : gFl RX3 21 3 3 RX3 TX3 4 := ⟨rfl, by decide, iX3, gT1 207 rfl rfl, rfl⟩
theorem FX7_9 : gFl RX7 9 7 0 RX7 TX7 2 := ⟨rfl, by decide, iX7, gT1 229 rfl rfl, rfl⟩
theorem FX8_87 : gFl RX8 87 7 0 RX7 TX7 2 := ⟨rfl, by decide, iX7, gT1 230 rfl rfl, rfl⟩
theorem FX6_110 : gFl RX6 110 7 0 RX7 TX7 2 := ⟨rfl, by decide, iX7, gT1 231 rfl rfl, rfl⟩
theorem FX2_103 : gFl RX2 103 7 0 RX7 TX7 2 := ⟨rfl, by decide, iX7, gT1 232 rfl rfl, rfl⟩
theorem FX10_314 : gFl RX10 314 7 0 RX7 TX7 2 := ⟨rfl, by decide, iX7, gT1 233 rfl rfl, rfl⟩
theorem FX7_15 : gFl RX7 15 7 1 RX7 TX7 2 := ⟨rfl, by decide, iX7, gT1 234 rfl rfl, rfl⟩
theorem FX8_38 : gFl RX8 38 7 1 RX7 TX7 2 := ⟨rfl, by decide, iX7, gT1 235 rfl rfl, rfl⟩
theorem FX6_74 : gFl RX6 74 7 1 RX7 TX7 2 := ⟨rfl, by decide, iX7, gT1 236 rfl rfl, rfl⟩
theorem FX2_98 : gFl RX2 98 7 1 RX7 TX7 2 := ⟨rfl, by decide, iX7, gT1 237 rfl rfl, rfl⟩
theorem FX6_12 : gFl RX6 12 6 0 RX6 TX6 7 := ⟨rfl, by decide, iX6, gT2 3 rfl rfl, rfl⟩
theorem FX6_18 : gFl RX6 18 6 1 RX6 TX6 7 := ⟨rfl, by decide, iX6, gT2 4 rfl rfl, rfl⟩
theorem FX6_22 : gFl RX6 22 6 2 RX6 TX6 7 := ⟨rfl, by decide, iX6, gT2 5 rfl rfl, rfl⟩
theorem FX6_25 : gFl RX6 25 6 3 RX6 TX6 7 := ⟨rfl, by decide, iX6, gT2 6 rfl rfl, rfl⟩
theorem FX10_285 : gFl RX10 285 6 3 RX6 TX6 7 := ⟨rfl, by decide, iX6, gT2 7 rfl rfl, rfl⟩
theorem FX6_28 : gFl RX6 28 6 4 RX6 TX6 7 := ⟨rfl, by decide, iX6, gT2 8 rfl rfl, rfl⟩
theorem FX10_288 : gFl RX10 288 6 4 RX6 TX6 7 := ⟨rfl, by decide, iX6, gT2 9 rfl rfl, rfl⟩
theorem FX6_31 : gFl RX6 31 6 5 RX6 TX6 7 := ⟨rfl, by decide, iX6, gT2 10 rfl rfl, rfl⟩
theorem FX6_34 : gFl RX6 34 6 6 RX6 TX6 7 := ⟨rfl, by decide, iX6, gT2 11 rfl rfl, rfl⟩
theorem FX10_291 : gFl RX10 291 6 6 RX6 TX6 7 := ⟨rfl, by decide, iX6, gT2 12 rfl rfl, rfl⟩
theorem FX8_12 : gFl RX8 12 8 0 RX8 TX8 4 := ⟨rfl, by decide, iX8, gT2 36 rfl rfl, rfl⟩
theorem FX10_310 : gFl RX10 310 8 0 RX8 TX8 4 := ⟨rfl, by decide, iX8, gT2 37 rfl rfl, rfl⟩
theorem FX8_18 : gFl RX8 18 8 1 RX8 TX8 4 := ⟨rfl, by decide, iX8, gT2 38 rfl rfl, rfl⟩
theorem FX8_22 : gFl RX8 22 8 2 RX8 TX8 4 := ⟨rfl, by decide, iX8, gT2 39 rfl rfl, rfl⟩
theorem FX8_25 : gFl RX8 25 8 3 RX8 TX8 4 := ⟨rfl, by decide, iX8, gT2 40 rfl rfl, rfl⟩
theorem FX0_9 : gFl RX0 9 0 0 RX0 TX0 5 := ⟨rfl, by decide, iX0, gT2 56 rfl rfl, rfl⟩
theorem FX10_230 : gFl RX10 230 0 0 RX0 TX0 5 := ⟨rfl, by decide, iX0, gT2 57 rfl rfl, rfl⟩
theorem FX0_15 : gFl RX0 15 0 1 RX0 TX0 5 := ⟨rfl, by decide, iX0, gT2 58 rfl rfl, rfl⟩
theorem FX10_231 : gFl RX10 231 0 1 RX0 TX0 5 := ⟨rfl, by decide, iX0, gT2 59 rfl rfl, rfl⟩
theorem FX0_18 : gFl RX0 18 0 2 RX0 TX0 5 := ⟨rfl, by decide, iX0, gT2 60 rfl rfl, rfl⟩
theorem FX10_234 : gFl RX10 234 0 2 RX0 TX0 5 := ⟨rfl, by decide, iX0, gT2 61 rfl rfl, rfl⟩
theorem FX0_21 : gFl RX0 21 0 3 RX0 TX0 5 := ⟨rfl, by decide, iX0, gT2 62 rfl rfl, rfl⟩
theorem FX0_24 : gFl RX0 24 0 4 RX0 TX0 5 := ⟨rfl, by decide, iX0, gT2 63 rfl rfl, rfl⟩
theorem FX10_322 : gFl RX10 322 0 4 RX0 TX0 5 := ⟨rfl, by decide, iX0, gT2 64 rfl rfl, rfl⟩
theorem FX9_9 : gFl RX9 9 9 0 RX9 TX9 1 := ⟨rfl, by decide, iX9, gT2 82 rfl rfl, rfl⟩
theorem FX10_266 : gFl RX10 266 9 0 RX9 TX9 1 := ⟨rfl, by decide, iX9, gT2 83 rfl rfl, rfl⟩
theorem FX10_12 : gFl RX10 12 10 0 RX10 TX10 14 := ⟨rfl, by decide, iX10, gT2 92 rfl rfl, rfl⟩
theorem FX10_16 : gFl RX10 16 10 1 RX10 TX10 14 := ⟨rfl, by decide, iX10, gT2 93 rfl rfl, rfl⟩
theorem FX10_19 : gFl RX10 19 10 2 RX10 TX10 14 := ⟨rfl, by decide, iX10, gT2 94 rfl rfl, rfl⟩
theorem FX10_22 : gFl RX10 22 10 3 RX10 TX10 14 := ⟨rfl, by decide, iX10, gT2 95 rfl rfl, rfl⟩
theorem FX10_26 : gFl RX10 26 10 4 RX10 TX10 14 := ⟨rfl, by decide, iX10, gT2 96 rfl rfl, rfl⟩
theorem FX10_30 : gFl RX10 30 10 5 RX10 TX10 14 := ⟨rfl, by decide, iX10, gT2 97 rfl rfl, rfl⟩
theorem FX10_37 : gFl RX10 37 10 6 RX10 TX10 14 := ⟨rfl, by decide, iX10, gT2 98 rfl rfl, rfl⟩
theorem FX10_44 : gFl RX10 44 10 7 RX10 TX10 14 := ⟨rfl, by decide, iX10, gT2 99 rfl rfl, rfl⟩
theorem FX10_51 : gFl RX10 51 10 8 RX10 TX10 14 := ⟨rfl, by decide, iX10, gT2 100 rfl rfl, rfl⟩
theorem FX10_58 : gFl RX10 58 10 9 RX10 TX10 14 := ⟨rfl, by decide, iX10, gT2 101 rfl rfl, rfl⟩
theorem FX10_65 : gFl RX10 65 10 10 RX10 TX10 14 := ⟨rfl, by decide, iX10, gT2 102 rfl rfl, rfl⟩
theorem FX10_72 : gFl RX10 72 10 11 RX10 TX10 14 := ⟨rfl, by decide, iX10, gT2 103 rfl rfl, rfl⟩
theorem FX10_79 : gFl RX10 79 10 12 RX10 TX10 14 := ⟨rfl, by decide, iX10, gT2 104 rfl rfl, rfl⟩
theorem FX10_86 : gFl RX10 86 10 13 RX10 TX10 14 := ⟨rfl, by decide, iX10, gT2 105 rfl rfl, rfl⟩
theorem FX11_72 : gFl RX11 72 11 0 RX11 TX11 41 := ⟨rfl, by decide, iX11, gT6 60 rfl rfl, rfl⟩
theorem FX11_9 : gFl RX11 9 11 1 RX11 TX11 41 := ⟨rfl, by decide, iX11, gT6 61 rfl rfl, rfl⟩
theorem FX11_13 : gFl RX11 13 11 2 RX11 TX11 41 := ⟨rfl, by decide, iX11, gT6 62 rfl rfl, rfl⟩
theorem FX11_16 : gFl RX11 16 11 3 RX11 TX11 41 := ⟨rfl, by decide, iX11, gT6 63 rfl rfl, rfl⟩
theorem FX11_19 : gFl RX11 19 11 4 RX11 TX11 41 := ⟨rfl, by decide, iX11, gT6 64 rfl rfl, rfl⟩
theorem FX11_22 : gFl RX11 22 11 5 RX11 TX11 41 := ⟨rfl, by decide, iX11, gT6 65 rfl rfl, rfl⟩
theorem FX11_75 : gFl RX11 75 11 6 RX11 TX11 41 := ⟨rfl, by decide, iX11, gT6 66 rfl rfl, rfl⟩
theorem FX11_463 : gFl RX11 463 11 7 RX11 TX11 41 := ⟨rfl, by decide, iX11, gT6 67 rfl rfl, rfl⟩
theorem FX11_25 : gFl RX11 25 11 8 RX11 TX11 41 := ⟨rfl, by decide, iX11, gT6 68 rfl rfl, rfl⟩
theorem FX11_28 : gFl RX11 28 11 9 RX11 TX11 41 := ⟨rfl, by decide, iX11, gT6 69 rfl rfl, rfl⟩
theorem FX11_108 : gFl RX11 108 11 10 RX11 TX11 41 := ⟨rfl, by decide, iX11, gT6 70 rfl rfl, rfl⟩
theorem FX11_111 : gFl RX11 111 11 11 RX11 TX11 41 := ⟨rfl, by decide, iX11, gT6 71 rfl rfl, rfl⟩
theorem FX11_114 : gFl RX11 114 11 12 RX11 TX11 41 := ⟨rfl, by decide, iX11, gT6 72 rfl rfl, rfl⟩
theorem FX11_117 : gFl RX11 117 11 13 RX11 TX11 41 := ⟨rfl, by decide, iX11, gT6 73 rfl rfl, rfl⟩
theorem FX11_120 : gFl RX11 120 11 14 RX11 TX11 41 := ⟨rfl, by decide, iX11, gT6 74 rfl rfl, rfl⟩
theorem FX11_31 : gFl RX11 31 11 15 RX11 TX11 41 := ⟨rfl, by decide, iX11, gT6 75 rfl rfl, rfl⟩
theorem FX11_133 : gFl RX11 133 11 16 RX11 TX11 41 := ⟨rfl, by decide, iX11, gT6 76 rfl rfl, rfl⟩
theorem FX11_34 : gFl RX11 34 11 17 RX11 TX11 41 := ⟨rfl, by decide, iX11, gT6 77 rfl rfl, rfl⟩
theorem FX11_37 : gFl RX11 37 11 18 RX11 TX11 41 := ⟨rfl, by decide, iX11, gT6 78 rfl rfl, rfl⟩
theorem FX11_40 : gFl RX11 40 11 19 RX11 TX11 41 := ⟨rfl, by decide, iX11, gT6 79 rfl rfl, rfl⟩
theorem FX11_43 : gFl RX11 43 11 20 RX11 TX11 41 := ⟨rfl, by decide, iX11, gT6 80 rfl rfl, rfl⟩
theorem FX11_209 : gFl RX11 209 11 21 RX11 TX11 41 := ⟨rfl, by decide, iX11, gT6 81 rfl rfl, rfl⟩
theorem FX11_222 : gFl RX11 222 11 22 RX11 TX11 41 := ⟨rfl, by decide, iX11, gT6 82 rfl rfl, rfl⟩
theorem FX11_225 : gFl RX11 225 11 23 RX11 TX11 41 := ⟨rfl, by decide, iX11, gT6 83 rfl rfl, rfl⟩
theorem FX11_228 : gFl RX11 228 11 24 RX11 TX11 41 := ⟨rfl, by decide, iX11, gT6 84 rfl rfl, rfl⟩
theorem FX11_231 : gFl RX11 231 11 25 RX11 TX11 41 := ⟨rfl, by decide, iX11, gT6 85 rfl rfl, rfl⟩
theorem FX11_240 : gFl RX11 240 11 26 RX11 TX11 41 := ⟨rfl, by decide, iX11, gT6 86 rfl rfl, rfl⟩
theorem FX11_243 : gFl RX11 243 11 27 RX11 TX11 41 := ⟨rfl, by decide, iX11, gT6 87 rfl rfl, rfl⟩
theorem FX11_273 : gFl RX11 273 11 28 RX11 TX11 41 := ⟨rfl, by decide, iX11, gT6 88 rfl rfl, rfl⟩
theorem FX11_46 : gFl RX11 46 11 29 RX11 TX11 41 := ⟨rfl, by decide, iX11, gT6 89 rfl rfl, rfl⟩
theorem FX11_257 : gFl RX11 257 11 30 RX11 TX11 41 := ⟨rfl, by decide, iX11, gT6 90 rfl rfl, rfl⟩
theorem FX11_285 : gFl RX11 285 11 31 RX11 TX11 41 := ⟨rfl, by decide, iX11, gT6 91 rfl rfl, rfl⟩
theorem FX11_50 : gFl RX11 50 11 32 RX11 TX11 41 := ⟨rfl, by decide, iX11, gT6 92 rfl rfl, rfl⟩
theorem FX11_338 : gFl RX11 338 11 33 RX11 TX11 41 := ⟨rfl, by decide, iX11, gT6 93 rfl rfl, rfl⟩
theorem FX11_53 : gFl RX11 53 11 34 RX11 TX11 41 := ⟨rfl, by decide, iX11, gT6 94 rfl rfl, rfl⟩
theorem FX11_56 : gFl RX11 56 11 35 RX11 TX11 41 := ⟨rfl, by decide, iX11, gT6 95 rfl rfl, rfl⟩
theorem FX11_59 : gFl RX11 59 11 36 RX11 TX11 41 := ⟨rfl, by decide, iX11, gT6 96 rfl rfl, rfl⟩
theorem FX11_62 : gFl RX11 62 11 37 RX11 TX11 41 := ⟨rfl, by decide, iX11, gT6 97 rfl rfl, rfl⟩
theorem FX11_403 : gFl RX11 403 11 38 RX11 TX11 41 := ⟨rfl, by decide, iX11, gT6 98 rfl rfl, rfl⟩
theorem FX11_65 : gFl RX11 65 11 39 RX11 TX11 41 := ⟨rfl, by decide, iX11, gT6 99 rfl rfl, rfl⟩
theorem FX11_451 : gFl RX11 451 11 40 RX11 TX11 41 := ⟨rfl, by decide, iX11, gT6 100 rfl rfl, rfl⟩
theorem LX10_92 : gLv RX10 92 yX2_addTask cX2_addTask 4 none 2 := ⟨gT2 91 rfl rfl, gT2 88 rfl rfl, gT2 89 rfl rfl, gT2 90 rfl rfl, gT1 2 rfl rfl, by decide, by decide, by decide +kernel⟩
theorem LL_130 : gLv RL 130 yX10_errorCode cX10_errorCode 1 (some .int) 0 := ⟨gT2 138 rfl rfl, gT2 135 rfl rfl, gT2 136 rfl rfl, gT2 137 rfl rfl, gT1 1 rfl rfl, by decide, by decide, by decide +kernel⟩
theorem LL_134 : gLv RL 134 yX10_errorPosition cX10_errorPosition 1 (some .int) 0 := ⟨gT2 142 rfl rfl, gT2 139 rfl rfl, gT2 140 rfl rfl, gT2 141 rfl rfl, gT1 1 rfl rfl, by decide, by decide, by decide +kernel⟩
theorem LL_185 : gLv RL 185 yX10_turned cX10_turned 1 (some .int) 0 := ⟨gT2 146 rfl rfl, gT2 143 rfl rfl, gT2 144 rfl rfl, gT2 145 rfl rfl, gT1 1 rfl rfl, by decide, by decide, by decide +kernel⟩
theorem LX10_307 : gLv RX10 307 yX8_sortAll cX8_sortAll 2 none 1 := ⟨gT2 150 rfl rfl, gT2 147 rfl rfl, gT2 148 rfl rfl, gT2 149 rfl rfl, gT1 9 rfl rfl, by decide, by decide, by decide +kernel⟩
theorem LX8_34 : gLv RX8 34 yX8_sortPart cX8_sortPart 7 none 3 := ⟨gT2 154 rfl rfl, gT2 151 rfl rfl, gT2 153 rfl rfl, gBW_s 0 rfl rfl, gT1 9 rfl rfl, by decide, by decide, by decide +kernel⟩
theorem LX8_41 : gLv RX8 41 yX7_putPlaces cX7_putPlaces 5 none 3 := ⟨gT2 158 rfl rfl, gT2 155 rfl rfl, gT2 156 rfl rfl, gT2 157 rfl rfl, gT1 8 rfl rfl, by decide, by decide, by decide +kernel⟩
theorem LX7_19 : gLv RX7 19 yX7_put cX7_put 2 none 1 := ⟨gT2 162 rfl rfl, gT2 159 rfl rfl, gT2 160 rfl rfl, gT2 161 rfl rfl, gT1 8 rfl rfl, by decide, by decide, by decide +kernel⟩
theorem LX8_44 : gLv RX8 44 yX8_lookBefore cX8_lookBefore 7 none 3 := ⟨gT2 166 rfl rfl, gT2 163 rfl rfl, gT2 165 rfl rfl, gBW_s 1 rfl rfl, gT1 9 rfl rfl, by decide, by decide, by decide +kernel⟩
theorem LX8_58 : gLs RX8 58 yJ7_fill_53178 cJ7_fill_53178 4 none 2 := ⟨gT2 169 rfl rfl, gT2 167 rfl rfl, gT2 168 rfl rfl, gT1 18 rfl rfl, by decide, by decide, by decide +kernel⟩
theorem LX8_47 : gLv RX8 47 yX8_freePlace cX8_freePlace 5 (some .int) 2 := ⟨gT2 173 rfl rfl, gT2 170 rfl rfl, gT2 172 rfl rfl, gBW_s 2 rfl rfl, gT1 9 rfl rfl, by decide, by decide, by decide +kernel⟩
theorem LX8_54 : gLv RX8 54 yX7_put cX7_put 2 none 1 := ⟨gT2 162 rfl rfl, gT2 177 rfl rfl, gT2 160 rfl rfl, gT2 161 rfl rfl, gT1 8 rfl rfl, by decide, by decide, by decide +kernel⟩
theorem LX10_318 : gLv RX10 318 yX8_turnedPairs cX8_turnedPairs 5 (some .int) 1 := ⟨gT2 181 rfl rfl, gT2 178 rfl rfl, gT2 179 rfl rfl, gT2 180 rfl rfl, gT1 9 rfl rfl, by decide, by decide, by decide +kernel⟩
theorem LL_189 : gLv RL 189 yX10_length cX10_length 1 (some .int) 0 := ⟨gT2 185 rfl rfl, gT2 182 rfl rfl, gT2 183 rfl rfl, gT2 184 rfl rfl, gT1 1 rfl rfl, by decide, by decide, by decide +kernel⟩
theorem LX10_227 : gLv RX10 227 yX0_measure cX0_measure 3 none 1 := ⟨gT2 189 rfl rfl, gT2 186 rfl rfl, gT2 187 rfl rfl, gT2 188 rfl rfl, gT1 10 rfl rfl, by decide, by decide, by decide +kernel⟩
theorem LX0_28 : gLs RX0 28 yJ7_fill_53178 cJ7_fill_53178 4 none 2 := ⟨gT2 169 rfl rfl, gT2 190 rfl rfl, gT2 168 rfl rfl, gT1 18 rfl rfl, by decide, by decide, by decide +kernel⟩
theorem LX0_46 : gLv RX0 46 yX0_goOn cX0_goOn 5 none 2 := ⟨gT2 194 rfl rfl, gT2 191 rfl rfl, gT2 193 rfl rfl, gBW_s 3 rfl rfl, gT1 10 rfl rfl, by decide, by decide, by decide +kernel⟩
theorem LX0_56 : gLv RX0 56 yX0_goBack cX0_goBack 5 none 2 := ⟨gT2 201 rfl rfl, gT2 198 rfl rfl, gT2 200 rfl rfl, gBW_s 4 rfl rfl, gT1 10 rfl rfl, by decide, by decide, by decide +kernel⟩
theorem LL_193 : gLv RL 193 yX10_tight cX10_tight 3 (some .int) 0 := ⟨gT2 205 rfl rfl, gT2 202 rfl rfl, gT2 203 rfl rfl, gT2 204 rfl rfl, gT1 1 rfl rfl, by decide, by decide, by decide +kernel⟩
theorem LX10_237 : gLv RX10 237 yX0_slackAt cX0_slackAt 2 (some .int) 1 := ⟨gT2 209 rfl rfl, gT2 206 rfl rfl, gT2 207 rfl rfl, gT2 208 rfl rfl, gT1 10 rfl rfl, by decide, by decide, by decide +kernel⟩
theorem LX10_183 : gLs RX10 183 yX10_headOf cX10_headOf 1 (some .int) 1 := ⟨gT2 212 rfl rfl, gT2 210 rfl rfl, gT2 211 rfl rfl, gT1 1 rfl rfl, by decide, by decide, by decide +kernel⟩
theorem LX10_398 : gLs RX10 398 yJ6_numberOfTrailingZeros_0f7a4 cJ6_numberOfTrailingZeros_0f7a4 2 (some .int) 1 := ⟨gT2 215 rfl rfl, gT2 213 rfl rfl, gT2 214 rfl rfl, gT1 23 rfl rfl, by decide, by decide, by decide +kernel⟩
theorem LL_197 : gLv RL 197 yX10_gap cX10_gap 1 (some .int) 0 := ⟨gT2 220 rfl rfl, gT2 217 rfl rfl, gT2 218 rfl rfl, gT2 219 rfl rfl, gT1 1 rfl rfl, by decide, by decide, by decide +kernel⟩
theorem LX10_325 : gLv RX10 325 yX2_wrongArrows cX2_wrongArrows 3 (some .int) 0 := ⟨gT2 224 rfl rfl, gT2 221 rfl rfl, gT2 222 rfl rfl, gT2 223 rfl rfl, gT1 2 rfl rfl, by decide, by decide, by decide +kernel⟩
theorem LX10_328 : gLv RX10 328 yX2_wrongPairs cX2_wrongPairs 5 (some .int) 0 := ⟨gT2 228 rfl rfl, gT2 225 rfl rfl, gT2 226 rfl rfl, gT2 227 rfl rfl, gT1 2 rfl rfl, by decide, by decide, by decide +kernel⟩
theorem LL_201 : gLv RL 201 yX10_weakest cX10_weakest 5 (some .int) 0 := ⟨gT2 233 rfl rfl, gT2 230 rfl rfl, gT2 231 rfl rfl, gT2 232 rfl rfl, gT1 1 rfl rfl, by decide, by decide, by decide +kernel⟩
theorem LX10_249 : gLv RX10 249 yX2_isInner cX2_isInner 2 (some .boolean) 1 := ⟨gT2 237 rfl rfl, gT2 234 rfl rfl, gT2 235 rfl rfl, gT2 236 rfl rfl, gT1 2 rfl rfl, by decide, by decide, by decide +kernel⟩
theorem LX10_331 : gLv RX10 331 yX2_isNeedless cX2_isNeedless 9 (some .boolean) 1 := ⟨gT3 1 rfl rfl, gT2 238 rfl rfl, gT2 239 rfl rfl, gT3 0 rfl rfl, gT1 2 rfl rfl, by decide, by decide, by decide +kernel⟩
theorem LX10_334 : gLv RX10 334 yX8_partsWithout cX8_partsWithout 3 (some .int) 2 := ⟨gT3 5 rfl rfl, gT3 2 rfl rfl, gT3 3 rfl rfl, gT3 4 rfl rfl, gT1 9 rfl rfl, by decide, by decide, by decide +kernel⟩
theorem LX8_109 : gLv RX8 109 yX2_closeWithout cX2_closeWithout 6 none 2 := ⟨gT3 9 rfl rfl, gT3 6 rfl rfl, gT3 7 rfl rfl, gT3 8 rfl rfl, gT1 2 rfl rfl, by decide, by decide, by decide +kernel⟩
theorem LX8_105 : gLv RX8 105 yX8_putParts cX8_putParts 9 (some .int) 3 := ⟨gT3 13 rfl rfl, gT3 10 rfl rfl, gT3 12 rfl rfl, gBW_s 5 rfl rfl, gT1 9 rfl rfl, by decide, by decide, by decide +kernel⟩
theorem LL_205 : gLv RL 205 yX10_needless cX10_needless 3 (some .int) 0 := ⟨gT3 17 rfl rfl, gT3 14 rfl rfl, gT3 15 rfl rfl, gT3 16 rfl rfl, gT1 1 rfl rfl, by decide, by decide, by decide +kernel⟩
theorem LL_212 : gLv RL 212 yX10_innerShare cX10_innerShare 1 (some .float) 0 := ⟨gT3 21 rfl rfl, gT3 18 rfl rfl, gT3 19 rfl rfl, gT3 20 rfl rfl, gT1 1 rfl rfl, by decide, by decide, by decide +kernel⟩
theorem LX10_162 : gLv RX10 162 yX2_innerArrows cX2_innerArrows 3 (some .int) 0 := ⟨gT3 25 rfl rfl, gT3 22 rfl rfl, gT3 23 rfl rfl, gT3 24 rfl rfl, gT1 2 rfl rfl, by decide, by decide, by decide +kernel⟩
theorem LX2_79 : gLv RX2 79 yX2_isInner cX2_isInner 2 (some .boolean) 1 := ⟨gT2 237 rfl rfl, gT3 26 rfl rfl, gT2 235 rfl rfl, gT2 236 rfl rfl, gT1 2 rfl rfl, by decide, by decide, by decide +kernel⟩
theorem LL_217 : gLv RL 217 yX10_meanMoved cX10_meanMoved 3 (some .double) 0 := ⟨gT3 30 rfl rfl, gT3 27 rfl rfl, gT3 28 rfl rfl, gT3 29 rfl rfl, gT1 1 rfl rfl, by decide, by decide, by decide +kernel⟩
theorem LL_240 : gLv RL 240 yX10_refresh cX10_refresh 1 (some .int) 0 := ⟨gT3 34 rfl rfl, gT3 31 rfl rfl, gT3 32 rfl rfl, gT3 33 rfl rfl, gT1 1 rfl rfl, by decide, by decide, by decide +kernel⟩
theorem LX10_133 : gLv RX10 133 yX10_remember cX10_remember 3 none 0 := ⟨gT3 38 rfl rfl, gT3 35 rfl rfl, gT3 37 rfl rfl, gBW_s 6 rfl rfl, gT1 1 rfl rfl, by decide, by decide, by decide +kernel⟩
theorem LX10_121 : gLv RX10 121 yX2_copyFrom cX2_copyFrom 2 none 1 := ⟨gT3 42 rfl rfl, gT3 39 rfl rfl, gT3 40 rfl rfl, gT3 41 rfl rfl, gT1 2 rfl rfl, by decide, by decide, by decide +kernel⟩
theorem LX10_367 : gLv RX10 367 yX8_renew cX8_renew 4 (some .int) 1 := ⟨gT3 49 rfl rfl, gT3 46 rfl rfl, gT3 47 rfl rfl, gT3 48 rfl rfl, gT1 9 rfl rfl, by decide, by decide, by decide +kernel⟩
theorem LX8_83 : gLv RX8 83 yX8_sortAll cX8_sortAll 2 none 1 := ⟨gT2 150 rfl rfl, gT3 50 rfl rfl, gT2 148 rfl rfl, gT2 149 rfl rfl, gT1 9 rfl rfl, by decide, by decide, by decide +kernel⟩
theorem LX8_89 : gLv RX8 89 yX2_takeOrder cX2_takeOrder 3 none 1 := ⟨gT3 54 rfl rfl, gT3 51 rfl rfl, gT3 52 rfl rfl, gT3 53 rfl rfl, gT1 2 rfl rfl, by decide, by decide, by decide +kernel⟩
theorem LX2_95 : gLv RX2 95 yX2_setPlaces cX2_setPlaces 3 none 0 := ⟨gT3 58 rfl rfl, gT3 55 rfl rfl, gT3 57 rfl rfl, gBW_s 7 rfl rfl, gT1 2 rfl rfl, by decide, by decide, by decide +kernel⟩
theorem LL_244 : gLv RL 244 yX10_writeOrder cX10_writeOrder 2 (some .int) 0 := ⟨gT3 62 rfl rfl, gT3 59 rfl rfl, gT3 60 rfl rfl, gT3 61 rfl rfl, gT1 1 rfl rfl, by decide, by decide, by decide +kernel⟩
theorem LX10_371 : gLv RX10 371 yX4_put cX4_put 2 none 1 := ⟨gT3 66 rfl rfl, gT3 63 rfl rfl, gT3 64 rfl rfl, gT3 65 rfl rfl, gT1 4 rfl rfl, by decide, by decide, by decide +kernel⟩
theorem LX10_374 : gLv RX10 374 yX4_putGroup cX4_putGroup 5 none 2 := ⟨gT3 70 rfl rfl, gT3 67 rfl rfl, gT3 68 rfl rfl, gT3 69 rfl rfl, gT1 4 rfl rfl, by decide, by decide, by decide +kernel⟩
theorem LX4_27 : gLs RX4 27 yJ6_bitCount_0f7a4 cJ6_bitCount_0f7a4 1 (some .int) 1 := ⟨gT3 73 rfl rfl, gT3 71 rfl rfl, gT3 72 rfl rfl, gT1 23 rfl rfl, by decide, by decide, by decide +kernel⟩
theorem LX4_23 : gLv RX4 23 yX4_put cX4_put 2 none 1 := ⟨gT3 66 rfl rfl, gT3 77 rfl rfl, gT3 64 rfl rfl, gT3 65 rfl rfl, gT1 4 rfl rfl, by decide, by decide, by decide +kernel⟩
theorem LX4_49 : gLv RX4 49 yX4_putName cX4_putName 5 none 1 := ⟨gT3 83 rfl rfl, gT3 80 rfl rfl, gT3 81 rfl rfl, gT3 82 rfl rfl, gT1 4 rfl rfl, by decide, by decide, by decide +kernel⟩
theorem LL_251 : gLv RL 251 yX10_outputByte cX10_outputByte 2 (some .int) 1 := ⟨gT3 90 rfl rfl, gT3 87 rfl rfl, gT3 88 rfl rfl, gT3 89 rfl rfl, gT1 1 rfl rfl, by decide, by decide, by decide +kernel⟩
theorem LL_255 : gLv RL 255 yX10_undo cX10_undo 1 (some .int) 0 := ⟨gT3 94 rfl rfl, gT3 91 rfl rfl, gT3 92 rfl rfl, gT3 93 rfl rfl, gT1 1 rfl rfl, by decide, by decide, by decide +kernel⟩
theorem LL_259 : gLv RL 259 yX10_save cX10_save 1 (some .int) 0 := ⟨gT3 98 rfl rfl, gT3 95 rfl rfl, gT3 96 rfl rfl, gT3 97 rfl rfl, gT1 1 rfl rfl, by decide, by decide, by decide +kernel⟩
theorem LL_7 : gLv RL 7 yX10_append cX10_append 6 (some .int) 5 := ⟨gT3 106 rfl rfl, gT3 103 rfl rfl, gT3 104 rfl rfl, gT3 105 rfl rfl, gT1 1 rfl rfl, by decide, by decide, by decide +kernel⟩
theorem LX10_106 : gLv RX10 106 yX5_putNumber cX5_putNumber 3 none 1 := ⟨gT3 177 rfl rfl, gT3 174 rfl rfl, gT3 175 rfl rfl, gT3 176 rfl rfl, gT1 3 rfl rfl, by decide, by decide, by decide +kernel⟩
theorem LL_15 : gLv RL 15 yX10_truncate cX10_truncate 2 (some .int) 1 := ⟨gT3 185 rfl rfl, gT3 182 rfl rfl, gT3 183 rfl rfl, gT3 184 rfl rfl, gT1 1 rfl rfl, by decide, by decide, by decide +kernel⟩
theorem LL_21 : gLv RL 21 yX10_readText cX10_readText 2 (some .int) 0 := ⟨gT3 208 rfl rfl, gT3 205 rfl rfl, gT3 206 rfl rfl, gT3 207 rfl rfl, gT1 1 rfl rfl, by decide, by decide, by decide +kernel⟩
theorem LX10_115 : gLv RX10 115 yX1_readAll cX1_readAll 6 (some .boolean) 3 := ⟨gT3 212 rfl rfl, gT3 209 rfl rfl, gT3 210 rfl rfl, gT3 211 rfl rfl, gT1 5 rfl rfl, by decide, by decide, by decide +kernel⟩
theorem LX1_18 : gLv RX1 18 yX2_clear cX2_clear 1 none 0 := ⟨gT3 216 rfl rfl, gT3 213 rfl rfl, gT3 214 rfl rfl, gT3 215 rfl rfl, gT1 2 rfl rfl, by decide, by decide, by decide +kernel⟩
theorem LX2_56 : gLv RX2 56 yX2_clearAccounts cX2_clearAccounts 1 none 0 := ⟨gT3 220 rfl rfl, gT3 217 rfl rfl, gT3 218 rfl rfl, gT3 219 rfl rfl, gT1 2 rfl rfl, by decide, by decide, by decide +kernel⟩
theorem LX2_59 : gLs RX2 59 yJ7_fill_d0a16 cJ7_fill_d0a16 5 none 2 := ⟨gT3 223 rfl rfl, gT3 221 rfl rfl, gT3 222 rfl rfl, gT1 18 rfl rfl, by decide, by decide, by decide +kernel⟩
theorem LX1_23 : gLv RX1 23 yX5_begin cX5_begin 1 none 0 := ⟨gT3 227 rfl rfl, gT3 224 rfl rfl, gT3 225 rfl rfl, gT3 226 rfl rfl, gT1 3 rfl rfl, by decide, by decide, by decide +kernel⟩
theorem LX1_28 : gLv RX1 28 yX1_readStatement cX1_readStatement 4 (some .boolean) 3 := ⟨gT3 231 rfl rfl, gT3 228 rfl rfl, gT3 230 rfl rfl, gBW_s 9 rfl rfl, gT1 5 rfl rfl, by decide, by decide, by decide +kernel⟩
theorem LX1_45 : gLv RX1 45 yX5_readWord cX5_readWord 1 (some .boolean) 0 := ⟨gT3 235 rfl rfl, gT3 232 rfl rfl, gT3 233 rfl rfl, gT3 234 rfl rfl, gT1 3 rfl rfl, by decide, by decide, by decide +kernel⟩
theorem LX5_31 : gLv RX5 31 yX5_skipSpaces cX5_skipSpaces 1 none 0 := ⟨gT3 239 rfl rfl, gT3 236 rfl rfl, gT3 237 rfl rfl, gT3 238 rfl rfl, gT1 3 rfl rfl, by decide, by decide, by decide +kernel⟩
theorem LX5_34 : gLv RX5 34 yX5_isLetterAt cX5_isLetterAt 2 (some .boolean) 1 := ⟨gT4 3 rfl rfl, gT4 0 rfl rfl, gT4 2 rfl rfl, gBW_s 10 rfl rfl, gT1 3 rfl rfl, by decide, by decide, by decide +kernel⟩
theorem LX5_38 : gLv RX5 38 yX5_fail cX5_fail 3 (some .boolean) 2 := ⟨gT4 7 rfl rfl, gT4 4 rfl rfl, gT4 5 rfl rfl, gT4 6 rfl rfl, gT1 3 rfl rfl, by decide, by decide, by decide +kernel⟩
theorem LX1_50 : gLv RX1 50 yX5_wordIs cX5_wordIs 3 (some .boolean) 1 := ⟨gT4 12 rfl rfl, gT4 9 rfl rfl, gT4 10 rfl rfl, gT4 11 rfl rfl, gT1 3 rfl rfl, by decide, by decide, by decide +kernel⟩
theorem LX5_42 : gLv RX5 42 yJ0_length_8abf5 cJ0_length_8abf5 1 (some .int) 0 := ⟨gT4 16 rfl rfl, gT4 13 rfl rfl, gT4 14 rfl rfl, gT4 15 rfl rfl, gT1 19 rfl rfl, by decide, by decide, by decide +kernel⟩
theorem LJ0_335 : gLv RJ0 335 yJ0_coder_7d493 cJ0_coder_7d493 1 (some .byte) 0 := ⟨gT4 20 rfl rfl, gT4 17 rfl rfl, gT4 18 rfl rfl, gT4 19 rfl rfl, gT1 19 rfl rfl, by decide, by decide, by decide +kernel⟩
theorem LX5_48 : gLv RX5 48 yJ0_charAt_5068e cJ0_charAt_5068e 2 (some .char) 1 := ⟨gT4 26 rfl rfl, gT4 23 rfl rfl, gT4 24 rfl rfl, gT4 25 rfl rfl, gT1 19 rfl rfl, by decide, by decide, by decide +kernel⟩
theorem LJ0_492 : gLv RJ0 492 yJ0_isLatin1_aae02 cJ0_isLatin1_aae02 1 (some .boolean) 0 := ⟨gT4 30 rfl rfl, gT4 27 rfl rfl, gT4 28 rfl rfl, gT4 29 rfl rfl, gT1 19 rfl rfl, by decide, by decide, by decide +kernel⟩
theorem LJ0_495 : gLs RJ0 495 yJ1_charAt_3b067 cJ1_charAt_3b067 2 (some .char) 2 := ⟨gT4 33 rfl rfl, gT4 31 rfl rfl, gT4 32 rfl rfl, gT1 20 rfl rfl, by decide, by decide, by decide +kernel⟩
theorem LJ1_9 : gLs RJ1 9 yJ0_checkIndex_df160 cJ0_checkIndex_df160 2 none 2 := ⟨gT4 36 rfl rfl, gT4 34 rfl rfl, gT4 35 rfl rfl, gT1 19 rfl rfl, by decide, by decide, by decide +kernel⟩
theorem LJ0_1059 : gLs RJ0 1059 yJ3_checkIndex_8e157 cJ3_checkIndex_8e157 3 (some .int) 3 := ⟨gT4 41 rfl rfl, gT4 39 rfl rfl, gT4 40 rfl rfl, gT1 21 rfl rfl, by decide, by decide, by decide +kernel⟩
theorem LJ0_498 : gLs RJ0 498 yJ2_charAt_3b067 cJ2_charAt_3b067 2 (some .char) 2 := ⟨gT4 44 rfl rfl, gT4 42 rfl rfl, gT4 43 rfl rfl, gT1 22 rfl rfl, by decide, by decide, by decide +kernel⟩
theorem LJ2_67 : gLs RJ2 67 yJ2_checkIndex_2214a cJ2_checkIndex_2214a 2 none 2 := ⟨gT4 47 rfl rfl, gT4 45 rfl rfl, gT4 46 rfl rfl, gT1 22 rfl rfl, by decide, by decide, by decide +kernel⟩
theorem LJ2_48 : gLs RJ2 48 yJ2_length_9d52b cJ2_length_9d52b 1 (some .int) 1 := ⟨gT4 50 rfl rfl, gT4 48 rfl rfl, gT4 49 rfl rfl, gT1 22 rfl rfl, by decide, by decide, by decide +kernel⟩
theorem LJ2_414 : gLs RJ2 414 yJ0_checkIndex_df160 cJ0_checkIndex_df160 2 none 2 := ⟨gT4 36 rfl rfl, gT4 51 rfl rfl, gT4 35 rfl rfl, gT1 19 rfl rfl, by decide, by decide, by decide +kernel⟩
theorem LJ2_71 : gLs RJ2 71 yJ2_getChar_3b067 cJ2_getChar_3b067 2 (some .char) 2 := ⟨gT4 54 rfl rfl, gT4 52 rfl rfl, gT4 53 rfl rfl, gT1 22 rfl rfl, by decide, by decide, by decide +kernel⟩
theorem LX1_54 : gLv RX1 54 yX1_readNewTask cX1_readNewTask 6 (some .boolean) 2 := ⟨gT4 64 rfl rfl, gT4 61 rfl rfl, gT4 63 rfl rfl, gBW_s 11 rfl rfl, gT1 5 rfl rfl, by decide, by decide, by decide +kernel⟩
theorem LX1_65 : gLv RX1 65 yX5_fail cX5_fail 3 (some .boolean) 2 := ⟨gT4 7 rfl rfl, gT4 65 rfl rfl, gT4 5 rfl rfl, gT4 6 rfl rfl, gT1 3 rfl rfl, by decide, by decide, by decide +kernel⟩
theorem LX1_84 : gLv RX1 84 yX5_readName cX5_readName 1 (some .long) 0 := ⟨gT4 69 rfl rfl, gT4 66 rfl rfl, gT4 67 rfl rfl, gT4 68 rfl rfl, gT1 3 rfl rfl, by decide, by decide, by decide +kernel⟩
theorem LX5_52 : gLv RX5 52 yX5_readWord cX5_readWord 1 (some .boolean) 0 := ⟨gT3 235 rfl rfl, gT4 70 rfl rfl, gT3 233 rfl rfl, gT3 234 rfl rfl, gT1 3 rfl rfl, by decide, by decide, by decide +kernel⟩
theorem LX5_56 : gLv RX5 56 yX5_packed cX5_packed 6 (some .long) 2 := ⟨gT4 74 rfl rfl, gT4 71 rfl rfl, gT4 73 rfl rfl, gBW_s 12 rfl rfl, gT1 3 rfl rfl, by decide, by decide, by decide +kernel⟩
theorem LX1_88 : gLv RX1 88 yX2_taskNamed cX2_taskNamed 4 (some .int) 1 := ⟨gT4 78 rfl rfl, gT4 75 rfl rfl, gT4 76 rfl rfl, gT4 77 rfl rfl, gT1 2 rfl rfl, by decide, by decide, by decide +kernel⟩
theorem LX1_92 : gLv RX1 92 yX5_readNumber cX5_readNumber 4 (some .int) 2 := ⟨gT4 82 rfl rfl, gT4 79 rfl rfl, gT4 80 rfl rfl, gT4 81 rfl rfl, gT1 3 rfl rfl, by decide, by decide, by decide +kernel⟩
theorem LX5_70 : gLv RX5 70 yX5_isDigitAt cX5_isDigitAt 2 (some .boolean) 1 := ⟨gT4 86 rfl rfl, gT4 83 rfl rfl, gT4 85 rfl rfl, gBW_s 13 rfl rfl, gT1 3 rfl rfl, by decide, by decide, by decide +kernel⟩
theorem LX1_96 : gLv RX1 96 yX2_addTask cX2_addTask 4 none 2 := ⟨gT2 91 rfl rfl, gT4 87 rfl rfl, gT2 89 rfl rfl, gT2 90 rfl rfl, gT1 2 rfl rfl, by decide, by decide, by decide +kernel⟩
theorem LX1_71 : gLv RX1 71 yX1_readArrow cX1_readArrow 6 (some .boolean) 3 := ⟨gT4 92 rfl rfl, gT4 89 rfl rfl, gT4 91 rfl rfl, gBW_s 14 rfl rfl, gT1 5 rfl rfl, by decide, by decide, by decide +kernel⟩
theorem LX1_103 : gLv RX1 103 yX5_readTask cX5_readTask 5 (some .int) 1 := ⟨gT4 96 rfl rfl, gT4 93 rfl rfl, gT4 94 rfl rfl, gT4 95 rfl rfl, gT1 3 rfl rfl, by decide, by decide, by decide +kernel⟩
theorem LX5_60 : gLv RX5 60 yX5_readName cX5_readName 1 (some .long) 0 := ⟨gT4 69 rfl rfl, gT4 97 rfl rfl, gT4 67 rfl rfl, gT4 68 rfl rfl, gT1 3 rfl rfl, by decide, by decide, by decide +kernel⟩
theorem LX5_64 : gLv RX5 64 yX2_taskNamed cX2_taskNamed 4 (some .int) 1 := ⟨gT4 78 rfl rfl, gT4 98 rfl rfl, gT4 76 rfl rfl, gT4 77 rfl rfl, gT1 2 rfl rfl, by decide, by decide, by decide +kernel⟩
theorem LX1_107 : gLv RX1 107 yX2_refusal cX2_refusal 4 (some .int) 2 := ⟨gT4 102 rfl rfl, gT4 99 rfl rfl, gT4 100 rfl rfl, gT4 101 rfl rfl, gT1 2 rfl rfl, by decide, by decide, by decide +kernel⟩
theorem LX1_110 : gLv RX1 110 yX6_bring cX6_bring 5 (some .int) 3 := ⟨gT4 106 rfl rfl, gT4 103 rfl rfl, gT4 104 rfl rfl, gT4 105 rfl rfl, gT1 7 rfl rfl, by decide, by decide, by decide +kernel⟩
theorem LX6_112 : gLv RX6 112 yX6_survey cX6_survey 7 none 3 := ⟨gT4 110 rfl rfl, gT4 107 rfl rfl, gT4 108 rfl rfl, gT4 109 rfl rfl, gT1 7 rfl rfl, by decide, by decide, by decide +kernel⟩
theorem LX6_46 : gLv RX6 46 yX2_reachedBy cX2_reachedBy 4 (some .int) 1 := ⟨gT4 114 rfl rfl, gT4 111 rfl rfl, gT4 112 rfl rfl, gT4 113 rfl rfl, gT1 2 rfl rfl, by decide, by decide, by decide +kernel⟩
theorem LX6_57 : gLv RX6 57 yX6_countLooked cX6_countLooked 3 none 1 := ⟨gT4 119 rfl rfl, gT4 116 rfl rfl, gT4 118 rfl rfl, gBW_s 15 rfl rfl, gT1 7 rfl rfl, by decide, by decide, by decide +kernel⟩
theorem LX6_64 : gLv RX6 64 yX2_isInner cX2_isInner 2 (some .boolean) 1 := ⟨gT2 237 rfl rfl, gT4 120 rfl rfl, gT2 235 rfl rfl, gT2 236 rfl rfl, gT1 2 rfl rfl, by decide, by decide, by decide +kernel⟩
theorem LX6_115 : gLv RX6 115 yX6_affected cX6_affected 1 (some .int) 0 := ⟨gT4 124 rfl rfl, gT4 121 rfl rfl, gT4 122 rfl rfl, gT4 123 rfl rfl, gT1 7 rfl rfl, by decide, by decide, by decide +kernel⟩
theorem LX6_122 : gLv RX6 122 yX6_arrange cX6_arrange 4 (some .int) 2 := ⟨gT4 128 rfl rfl, gT4 125 rfl rfl, gT4 126 rfl rfl, gT4 127 rfl rfl, gT1 7 rfl rfl, by decide, by decide, by decide +kernel⟩
theorem LX6_77 : gLv RX6 77 yX7_putPlaces cX7_putPlaces 5 none 3 := ⟨gT2 158 rfl rfl, gT4 129 rfl rfl, gT2 156 rfl rfl, gT2 157 rfl rfl, gT1 8 rfl rfl, by decide, by decide, by decide +kernel⟩
theorem LX6_81 : gLv RX6 81 yX6_dealOut cX6_dealOut 7 none 1 := ⟨gT4 133 rfl rfl, gT4 130 rfl rfl, gT4 132 rfl rfl, gBW_s 16 rfl rfl, gT1 7 rfl rfl, by decide, by decide, by decide +kernel⟩
theorem LX6_99 : gLs RX6 99 yJ6_bitCount_0f7a4 cJ6_bitCount_0f7a4 1 (some .int) 1 := ⟨gT3 73 rfl rfl, gT4 134 rfl rfl, gT3 72 rfl rfl, gT1 23 rfl rfl, by decide, by decide, by decide +kernel⟩
theorem LX6_104 : gLv RX6 104 yX7_put cX7_put 2 none 1 := ⟨gT2 162 rfl rfl, gT4 135 rfl rfl, gT2 160 rfl rfl, gT2 161 rfl rfl, gT1 8 rfl rfl, by decide, by decide, by decide +kernel⟩
theorem LX6_107 : gLs RX6 107 yJ6_numberOfTrailingZeros_0f7a4 cJ6_numberOfTrailingZeros_0f7a4 2 (some .int) 1 := ⟨gT2 215 rfl rfl, gT4 136 rfl rfl, gT2 214 rfl rfl, gT1 23 rfl rfl, by decide, by decide, by decide +kernel⟩
theorem LX6_84 : gLv RX6 84 yX6_putThose cX6_putThose 4 none 2 := ⟨gT4 140 rfl rfl, gT4 137 rfl rfl, gT4 139 rfl rfl, gBW_s 17 rfl rfl, gT1 7 rfl rfl, by decide, by decide, by decide +kernel⟩
theorem LX6_88 : gLv RX6 88 yX7_putSome cX7_putSome 2 none 1 := ⟨gT4 144 rfl rfl, gT4 141 rfl rfl, gT4 142 rfl rfl, gT4 143 rfl rfl, gT1 8 rfl rfl, by decide, by decide, by decide +kernel⟩
theorem LX6_95 : gLv RX6 95 yX6_countMoved cX6_countMoved 5 (some .int) 2 := ⟨gT4 148 rfl rfl, gT4 145 rfl rfl, gT4 147 rfl rfl, gBW_s 18 rfl rfl, gT1 7 rfl rfl, by decide, by decide, by decide +kernel⟩
theorem LX6_125 : gLv RX6 125 yX2_takeOrder cX2_takeOrder 3 none 1 := ⟨gT3 54 rfl rfl, gT4 149 rfl rfl, gT3 52 rfl rfl, gT3 53 rfl rfl, gT1 2 rfl rfl, by decide, by decide, by decide +kernel⟩
theorem LX6_133 : gLv RX6 133 yX2_putArrow cX2_putArrow 4 none 2 := ⟨gT4 153 rfl rfl, gT4 150 rfl rfl, gT4 151 rfl rfl, gT4 152 rfl rfl, gT1 2 rfl rfl, by decide, by decide, by decide +kernel⟩
theorem LX1_76 : gLv RX1 76 yX1_readMode cX1_readMode 3 (some .boolean) 2 := ⟨gT4 158 rfl rfl, gT4 155 rfl rfl, gT4 157 rfl rfl, gBW_s 19 rfl rfl, gT1 5 rfl rfl, by decide, by decide, by decide +kernel⟩
theorem LX1_81 : gLv RX1 81 yX1_readJoin cX1_readJoin 3 (some .boolean) 2 := ⟨gT4 163 rfl rfl, gT4 160 rfl rfl, gT4 162 rfl rfl, gBW_s 20 rfl rfl, gT1 5 rfl rfl, by decide, by decide, by decide +kernel⟩
theorem LX1_32 : gLv RX1 32 yX5_skipSpaces cX5_skipSpaces 1 none 0 := ⟨gT3 239 rfl rfl, gT4 164 rfl rfl, gT3 237 rfl rfl, gT3 238 rfl rfl, gT1 3 rfl rfl, by decide, by decide, by decide +kernel⟩
theorem LX1_35 : gLv RX1 35 yX5_isAtEnd cX5_isAtEnd 1 (some .boolean) 0 := ⟨gT4 168 rfl rfl, gT4 165 rfl rfl, gT4 166 rfl rfl, gT4 167 rfl rfl, gT1 3 rfl rfl, by decide, by decide, by decide +kernel⟩
theorem LX1_39 : gLv RX1 39 yX5_readSemicolon cX5_readSemicolon 1 (some .boolean) 0 := ⟨gT4 172 rfl rfl, gT4 169 rfl rfl, gT4 170 rfl rfl, gT4 171 rfl rfl, gT1 3 rfl rfl, by decide, by decide, by decide +kernel⟩
theorem LX5_73 : gLv RX5 73 yX5_isAtEnd cX5_isAtEnd 1 (some .boolean) 0 := ⟨gT4 168 rfl rfl, gT4 173 rfl rfl, gT4 166 rfl rfl, gT4 167 rfl rfl, gT1 3 rfl rfl, by decide, by decide, by decide +kernel⟩
theorem LX1_42 : gLv RX1 42 yX2_clearAccounts cX2_clearAccounts 1 none 0 := ⟨gT3 220 rfl rfl, gT4 174 rfl rfl, gT3 218 rfl rfl, gT3 219 rfl rfl, gT1 2 rfl rfl, by decide, by decide, by decide +kernel⟩
theorem LL_25 : gLv RL 25 yX10_runOrders cX10_runOrders 2 (some .int) 0 := ⟨gT4 182 rfl rfl, gT4 179 rfl rfl, gT4 180 rfl rfl, gT4 181 rfl rfl, gT1 1 rfl rfl, by decide, by decide, by decide +kernel⟩
theorem LX10_128 : gLv RX10 128 yX3_readAll cX3_readAll 4 (some .boolean) 2 := ⟨gT4 186 rfl rfl, gT4 183 rfl rfl, gT4 184 rfl rfl, gT4 185 rfl rfl, gT1 6 rfl rfl, by decide, by decide, by decide +kernel⟩
theorem LX3_25 : gLv RX3 25 yX5_begin cX5_begin 1 none 0 := ⟨gT3 227 rfl rfl, gT4 187 rfl rfl, gT3 225 rfl rfl, gT3 226 rfl rfl, gT1 3 rfl rfl, by decide, by decide, by decide +kernel⟩
theorem LX3_30 : gLv RX3 30 yX5_skipSpaces cX5_skipSpaces 1 none 0 := ⟨gT3 239 rfl rfl, gT4 188 rfl rfl, gT3 237 rfl rfl, gT3 238 rfl rfl, gT1 3 rfl rfl, by decide, by decide, by decide +kernel⟩
theorem LX3_33 : gLv RX3 33 yX5_isAtEnd cX5_isAtEnd 1 (some .boolean) 0 := ⟨gT4 168 rfl rfl, gT4 189 rfl rfl, gT4 166 rfl rfl, gT4 167 rfl rfl, gT1 3 rfl rfl, by decide, by decide, by decide +kernel⟩
theorem LX3_37 : gLv RX3 37 yX3_readOrder cX3_readOrder 4 (some .boolean) 2 := ⟨gT4 193 rfl rfl, gT4 190 rfl rfl, gT4 192 rfl rfl, gBW_s 21 rfl rfl, gT1 6 rfl rfl, by decide, by decide, by decide +kernel⟩
theorem LX3_44 : gLv RX3 44 yX5_readWord cX5_readWord 1 (some .boolean) 0 := ⟨gT3 235 rfl rfl, gT4 194 rfl rfl, gT3 233 rfl rfl, gT3 234 rfl rfl, gT1 3 rfl rfl, by decide, by decide, by decide +kernel⟩
theorem LX3_47 : gLs RX3 47 yX3_kindOf cX3_kindOf 1 (some .int) 1 := ⟨gT4 197 rfl rfl, gT4 195 rfl rfl, gT4 196 rfl rfl, gT1 6 rfl rfl, by decide, by decide, by decide +kernel⟩
theorem LX3_68 : gLv RX3 68 yX5_wordIs cX5_wordIs 3 (some .boolean) 1 := ⟨gT4 12 rfl rfl, gT4 199 rfl rfl, gT4 10 rfl rfl, gT4 11 rfl rfl, gT1 3 rfl rfl, by decide, by decide, by decide +kernel⟩
theorem LX3_54 : gLv RX3 54 yX5_fail cX5_fail 3 (some .boolean) 2 := ⟨gT4 7 rfl rfl, gT4 206 rfl rfl, gT4 5 rfl rfl, gT4 6 rfl rfl, gT1 3 rfl rfl, by decide, by decide, by decide +kernel⟩
theorem LX3_58 : gLv RX3 58 yX3_readFirst cX3_readFirst 3 (some .boolean) 2 := ⟨gT4 210 rfl rfl, gT4 207 rfl rfl, gT4 209 rfl rfl, gBW_s 22 rfl rfl, gT1 6 rfl rfl, by decide, by decide, by decide +kernel⟩
theorem LX3_84 : gLv RX3 84 yX5_readNumber cX5_readNumber 4 (some .int) 2 := ⟨gT4 82 rfl rfl, gT4 211 rfl rfl, gT4 80 rfl rfl, gT4 81 rfl rfl, gT1 3 rfl rfl, by decide, by decide, by decide +kernel⟩
theorem LX3_62 : gLv RX3 62 yX3_readTasks cX3_readTasks 4 (some .boolean) 3 := ⟨gT4 215 rfl rfl, gT4 212 rfl rfl, gT4 214 rfl rfl, gBW_s 23 rfl rfl, gT1 6 rfl rfl, by decide, by decide, by decide +kernel⟩
theorem LX3_88 : gLv RX3 88 yX5_readTask cX5_readTask 5 (some .int) 1 := ⟨gT4 96 rfl rfl, gT4 216 rfl rfl, gT4 94 rfl rfl, gT4 95 rfl rfl, gT1 3 rfl rfl, by decide, by decide, by decide +kernel⟩
theorem LX3_41 : gLv RX3 41 yX5_readSemicolon cX5_readSemicolon 1 (some .boolean) 0 := ⟨gT4 172 rfl rfl, gT4 217 rfl rfl, gT4 170 rfl rfl, gT4 171 rfl rfl, gT1 3 rfl rfl, by decide, by decide, by decide +kernel⟩
theorem LX10_136 : gLv RX10 136 yX3_runAll cX3_runAll 5 (some .int) 3 := ⟨gT4 222 rfl rfl, gT4 219 rfl rfl, gT4 220 rfl rfl, gT4 221 rfl rfl, gT1 6 rfl rfl, by decide, by decide, by decide +kernel⟩
theorem LX3_92 : gLv RX3 92 yX3_run cX3_run 7 (some .boolean) 4 := ⟨gT4 226 rfl rfl, gT4 223 rfl rfl, gT4 225 rfl rfl, gBW_s 24 rfl rfl, gT1 6 rfl rfl, by decide, by decide, by decide +kernel⟩
theorem LX3_96 : gLs RX3 96 yX3_runArrow cX3_runArrow 4 (some .boolean) 4 := ⟨gT4 229 rfl rfl, gT4 227 rfl rfl, gT4 228 rfl rfl, gT1 6 rfl rfl, by decide, by decide, by decide +kernel⟩
theorem LX3_121 : gLv RX3 121 yX2_refusal cX2_refusal 4 (some .int) 2 := ⟨gT4 102 rfl rfl, gT4 230 rfl rfl, gT4 100 rfl rfl, gT4 101 rfl rfl, gT1 2 rfl rfl, by decide, by decide, by decide +kernel⟩
theorem LX3_124 : gLv RX3 124 yX6_bring cX6_bring 5 (some .int) 3 := ⟨gT4 106 rfl rfl, gT4 231 rfl rfl, gT4 104 rfl rfl, gT4 105 rfl rfl, gT1 7 rfl rfl, by decide, by decide, by decide +kernel⟩
theorem LX3_100 : gLs RX3 100 yX3_runCut cX3_runCut 5 (some .boolean) 4 := ⟨gT4 234 rfl rfl, gT4 232 rfl rfl, gT4 233 rfl rfl, gT1 6 rfl rfl, by decide, by decide, by decide +kernel⟩
theorem LX3_130 : gLv RX3 130 yX2_numberOf cX2_numberOf 4 (some .int) 2 := ⟨gT4 238 rfl rfl, gT4 235 rfl rfl, gT4 236 rfl rfl, gT4 237 rfl rfl, gT1 2 rfl rfl, by decide, by decide, by decide +kernel⟩
theorem LX3_133 : gLv RX3 133 yX8_cutOff cX8_cutOff 6 (some .int) 2 := ⟨gT5 2 rfl rfl, gT4 239 rfl rfl, gT5 0 rfl rfl, gT5 1 rfl rfl, gT1 9 rfl rfl, by decide, by decide, by decide +kernel⟩
theorem LX8_93 : gLv RX8 93 yX2_isInner cX2_isInner 2 (some .boolean) 1 := ⟨gT2 237 rfl rfl, gT5 3 rfl rfl, gT2 235 rfl rfl, gT2 236 rfl rfl, gT1 2 rfl rfl, by decide, by decide, by decide +kernel⟩
theorem LX8_97 : gLv RX8 97 yX2_dropArrow cX2_dropArrow 3 none 1 := ⟨gT5 7 rfl rfl, gT5 4 rfl rfl, gT5 5 rfl rfl, gT5 6 rfl rfl, gT1 2 rfl rfl, by decide, by decide, by decide +kernel⟩
theorem LX2_75 : gLv RX2 75 yX2_closeWithout cX2_closeWithout 6 none 2 := ⟨gT3 9 rfl rfl, gT5 8 rfl rfl, gT3 7 rfl rfl, gT3 8 rfl rfl, gT1 2 rfl rfl, by decide, by decide, by decide +kernel⟩
theorem LX3_108 : gLs RX3 108 yX3_runSwap cX3_runSwap 2 (some .boolean) 2 := ⟨gT5 11 rfl rfl, gT5 9 rfl rfl, gT5 10 rfl rfl, gT1 6 rfl rfl, by decide, by decide, by decide +kernel⟩
theorem LX3_140 : gLv RX3 140 yX2_leadsOn cX2_leadsOn 3 (some .boolean) 1 := ⟨gT5 15 rfl rfl, gT5 12 rfl rfl, gT5 13 rfl rfl, gT5 14 rfl rfl, gT1 2 rfl rfl, by decide, by decide, by decide +kernel⟩
theorem LX3_144 : gLv RX3 144 yX2_swapAt cX2_swapAt 3 none 1 := ⟨gT5 19 rfl rfl, gT5 16 rfl rfl, gT5 17 rfl rfl, gT5 18 rfl rfl, gT1 2 rfl rfl, by decide, by decide, by decide +kernel⟩
theorem LX3_116 : gLv RX3 116 yX8_renew cX8_renew 4 (some .int) 1 := ⟨gT3 49 rfl rfl, gT5 20 rfl rfl, gT3 47 rfl rfl, gT3 48 rfl rfl, gT1 9 rfl rfl, by decide, by decide, by decide +kernel⟩
theorem LL_28 : gLv RL 28 yX10_size cX10_size 2 (some .int) 1 := ⟨gT5 27 rfl rfl, gT5 24 rfl rfl, gT5 25 rfl rfl, gT5 26 rfl rfl, gT1 1 rfl rfl, by decide, by decide, by decide +kernel⟩
theorem LX10_158 : gLv RX10 158 yX2_largestGroup cX2_largestGroup 3 (some .int) 0 := ⟨gT5 31 rfl rfl, gT5 28 rfl rfl, gT5 29 rfl rfl, gT5 30 rfl rfl, gT1 2 rfl rfl, by decide, by decide, by decide +kernel⟩
theorem LX2_83 : gLs RX2 83 yJ6_bitCount_0f7a4 cJ6_bitCount_0f7a4 1 (some .int) 1 := ⟨gT3 73 rfl rfl, gT5 32 rfl rfl, gT3 72 rfl rfl, gT1 23 rfl rfl, by decide, by decide, by decide +kernel⟩
theorem LX10_165 : gLv RX10 165 yX2_trueGroups cX2_trueGroups 3 (some .int) 0 := ⟨gT5 37 rfl rfl, gT5 34 rfl rfl, gT5 35 rfl rfl, gT5 36 rfl rfl, gT1 2 rfl rfl, by decide, by decide, by decide +kernel⟩
theorem LL_31 : gLv RL 31 yX10_task cX10_task 3 (some .int) 2 := ⟨gT5 46 rfl rfl, gT5 43 rfl rfl, gT5 44 rfl rfl, gT5 45 rfl rfl, gT1 1 rfl rfl, by decide, by decide, by decide +kernel⟩
theorem LX10_170 : gLv RX10 170 yX10_checkTask cX10_checkTask 2 none 1 := ⟨gT5 50 rfl rfl, gT5 47 rfl rfl, gT5 49 rfl rfl, gBW_s 25 rfl rfl, gT1 1 rfl rfl, by decide, by decide, by decide +kernel⟩
theorem LX10_190 : gLs RX10 190 yJ6_bitCount_0f7a4 cJ6_bitCount_0f7a4 1 (some .int) 1 := ⟨gT3 73 rfl rfl, gT5 67 rfl rfl, gT3 72 rfl rfl, gT1 23 rfl rfl, by decide, by decide, by decide +kernel⟩
theorem LX10_195 : gLv RX10 195 yX2_arrowsTo cX2_arrowsTo 4 (some .int) 1 := ⟨gT5 71 rfl rfl, gT5 68 rfl rfl, gT5 69 rfl rfl, gT5 70 rfl rfl, gT1 2 rfl rfl, by decide, by decide, by decide +kernel⟩
theorem LX10_201 : gLv RX10 201 yX2_reachedBy cX2_reachedBy 4 (some .int) 1 := ⟨gT4 114 rfl rfl, gT5 72 rfl rfl, gT4 112 rfl rfl, gT4 113 rfl rfl, gT1 2 rfl rfl, by decide, by decide, by decide +kernel⟩
theorem LX10_208 : gLs RX10 208 yX10_lettersOf cX10_lettersOf 4 (some .int) 1 := ⟨gT5 75 rfl rfl, gT5 73 rfl rfl, gT5 74 rfl rfl, gT1 1 rfl rfl, by decide, by decide, by decide +kernel⟩
theorem LX10_214 : gLs RX10 214 yX10_letterOf cX10_letterOf 3 (some .int) 2 := ⟨gT3 86 rfl rfl, gT5 76 rfl rfl, gT3 85 rfl rfl, gT1 1 rfl rfl, by decide, by decide, by decide +kernel⟩
theorem LL_37 : gLv RL 37 yX10_letter cX10_letter 4 (some .int) 2 := ⟨gT5 84 rfl rfl, gT5 81 rfl rfl, gT5 82 rfl rfl, gT5 83 rfl rfl, gT1 1 rfl rfl, by decide, by decide, by decide +kernel⟩
theorem LL_40 : gLv RL 40 yX10_group cX10_group 4 (some .int) 2 := ⟨gT5 91 rfl rfl, gT5 88 rfl rfl, gT5 89 rfl rfl, gT5 90 rfl rfl, gT1 1 rfl rfl, by decide, by decide, by decide +kernel⟩
theorem LX10_218 : gLs RX10 218 yX10_checkPlace cX10_checkPlace 2 none 2 := ⟨gT5 94 rfl rfl, gT5 92 rfl rfl, gT5 93 rfl rfl, gT1 1 rfl rfl, by decide, by decide, by decide +kernel⟩
theorem LX10_224 : gLv RX10 224 yX2_innerArrowsAt cX2_innerArrowsAt 4 (some .int) 1 := ⟨gT5 100 rfl rfl, gT5 97 rfl rfl, gT5 98 rfl rfl, gT5 99 rfl rfl, gT1 2 rfl rfl, by decide, by decide, by decide +kernel⟩
theorem LL_43 : gLv RL 43 yX10_arrow cX10_arrow 3 (some .int) 2 := ⟨gT5 107 rfl rfl, gT5 104 rfl rfl, gT5 105 rfl rfl, gT5 106 rfl rfl, gT1 1 rfl rfl, by decide, by decide, by decide +kernel⟩
theorem LX10_240 : gLv RX10 240 yX10_checkArrow cX10_checkArrow 2 none 1 := ⟨gT5 111 rfl rfl, gT5 108 rfl rfl, gT5 110 rfl rfl, gBW_s 26 rfl rfl, gT1 1 rfl rfl, by decide, by decide, by decide +kernel⟩
theorem LL_46 : gLv RL 46 yX10_arrowOf cX10_arrowOf 3 (some .int) 2 := ⟨gT5 120 rfl rfl, gT5 117 rfl rfl, gT5 118 rfl rfl, gT5 119 rfl rfl, gT1 1 rfl rfl, by decide, by decide, by decide +kernel⟩
theorem LX10_255 : gLv RX10 255 yX2_numberOf cX2_numberOf 4 (some .int) 2 := ⟨gT4 238 rfl rfl, gT5 121 rfl rfl, gT4 236 rfl rfl, gT4 237 rfl rfl, gT1 2 rfl rfl, by decide, by decide, by decide +kernel⟩
theorem LL_49 : gLv RL 49 yX10_reaches cX10_reaches 3 (some .boolean) 2 := ⟨gT5 128 rfl rfl, gT5 125 rfl rfl, gT5 126 rfl rfl, gT5 127 rfl rfl, gT1 1 rfl rfl, by decide, by decide, by decide +kernel⟩
theorem LX10_259 : gLs RX10 259 yX10_has cX10_has 2 (some .boolean) 2 := ⟨gT2 176 rfl rfl, gT5 129 rfl rfl, gT2 175 rfl rfl, gT1 1 rfl rfl, by decide, by decide, by decide +kernel⟩
theorem LL_53 : gLv RL 53 yX10_far cX10_far 3 (some .int) 2 := ⟨gT5 136 rfl rfl, gT5 133 rfl rfl, gT5 134 rfl rfl, gT5 135 rfl rfl, gT1 1 rfl rfl, by decide, by decide, by decide +kernel⟩
theorem LX10_263 : gLv RX10 263 yX9_measure cX9_measure 7 none 2 := ⟨gT5 140 rfl rfl, gT5 137 rfl rfl, gT5 138 rfl rfl, gT5 139 rfl rfl, gT1 11 rfl rfl, by decide, by decide, by decide +kernel⟩
theorem LX9_15 : gLs RX9 15 yJ7_fill_53178 cJ7_fill_53178 4 none 2 := ⟨gT2 169 rfl rfl, gT5 141 rfl rfl, gT2 168 rfl rfl, gT1 18 rfl rfl, by decide, by decide, by decide +kernel⟩
theorem LL_56 : gLv RL 56 yX10_on cX10_on 6 (some .int) 3 := ⟨gT5 148 rfl rfl, gT5 145 rfl rfl, gT5 146 rfl rfl, gT5 147 rfl rfl, gT1 1 rfl rfl, by decide, by decide, by decide +kernel⟩
theorem LX10_269 : gLv RX10 269 yX9_stepFrom cX9_stepFrom 4 (some .int) 2 := ⟨gT5 152 rfl rfl, gT5 149 rfl rfl, gT5 150 rfl rfl, gT5 151 rfl rfl, gT1 11 rfl rfl, by decide, by decide, by decide +kernel⟩
theorem LL_60 : gLv RL 60 yX10_trial cX10_trial 5 (some .int) 3 := ⟨gT5 160 rfl rfl, gT5 157 rfl rfl, gT5 158 rfl rfl, gT5 159 rfl rfl, gT1 1 rfl rfl, by decide, by decide, by decide +kernel⟩
theorem LX10_275 : gLv RX10 275 yX2_refusal cX2_refusal 4 (some .int) 2 := ⟨gT4 102 rfl rfl, gT5 162 rfl rfl, gT4 100 rfl rfl, gT4 101 rfl rfl, gT1 2 rfl rfl, by decide, by decide, by decide +kernel⟩
theorem LX10_278 : gLv RX10 278 yX6_survey cX6_survey 7 none 3 := ⟨gT4 110 rfl rfl, gT5 163 rfl rfl, gT4 108 rfl rfl, gT4 109 rfl rfl, gT1 7 rfl rfl, by decide, by decide, by decide +kernel⟩
theorem LX10_282 : gLv RX10 282 yX6_affected cX6_affected 1 (some .int) 0 := ⟨gT4 124 rfl rfl, gT5 164 rfl rfl, gT4 122 rfl rfl, gT4 123 rfl rfl, gT1 7 rfl rfl, by decide, by decide, by decide +kernel⟩
theorem LX10_294 : gLv RX10 294 yX6_arrange cX6_arrange 4 (some .int) 2 := ⟨gT4 128 rfl rfl, gT5 165 rfl rfl, gT4 126 rfl rfl, gT4 127 rfl rfl, gT1 7 rfl rfl, by decide, by decide, by decide +kernel⟩
theorem LL_63 : gLv RL 63 yX10_why cX10_why 5 (some .int) 3 := ⟨gT5 172 rfl rfl, gT5 169 rfl rfl, gT5 170 rfl rfl, gT5 171 rfl rfl, gT1 1 rfl rfl, by decide, by decide, by decide +kernel⟩
theorem LL_66 : gLv RL 66 yX10_bestMode cX10_bestMode 7 (some .int) 2 := ⟨gT5 180 rfl rfl, gT5 177 rfl rfl, gT5 178 rfl rfl, gT5 179 rfl rfl, gT1 1 rfl rfl, by decide, by decide, by decide +kernel⟩
theorem LL_69 : gLv RL 69 yX10_leastPlace cX10_leastPlace 5 (some .int) 1 := ⟨gT5 187 rfl rfl, gT5 184 rfl rfl, gT5 185 rfl rfl, gT5 186 rfl rfl, gT1 1 rfl rfl, by decide, by decide, by decide +kernel⟩
theorem LL_72 : gLv RL 72 yX10_mostPlace cX10_mostPlace 5 (some .int) 1 := ⟨gT5 195 rfl rfl, gT5 192 rfl rfl, gT5 193 rfl rfl, gT5 194 rfl rfl, gT1 1 rfl rfl, by decide, by decide, by decide +kernel⟩
theorem LL_75 : gLv RL 75 yX10_fresh cX10_fresh 2 (some .int) 1 := ⟨gT5 205 rfl rfl, gT5 202 rfl rfl, gT5 203 rfl rfl, gT5 204 rfl rfl, gT1 1 rfl rfl, by decide, by decide, by decide +kernel⟩
theorem LL_78 : gLv RL 78 yX10_account cX10_account 2 (some .long) 1 := ⟨gT5 212 rfl rfl, gT5 209 rfl rfl, gT5 210 rfl rfl, gT5 211 rfl rfl, gT1 1 rfl rfl, by decide, by decide, by decide +kernel⟩
theorem LL_82 : gLv RL 82 yX10_make cX10_make 4 (some .int) 1 := ⟨gT5 220 rfl rfl, gT5 217 rfl rfl, gT5 218 rfl rfl, gT5 219 rfl rfl, gT1 1 rfl rfl, by decide, by decide, by decide +kernel⟩
theorem LX10_342 : gLs RX10 342 yX10_checkHours cX10_checkHours 1 none 1 := ⟨gT5 223 rfl rfl, gT5 221 rfl rfl, gT5 222 rfl rfl, gT1 1 rfl rfl, by decide, by decide, by decide +kernel⟩
theorem LX10_345 : gLv RX10 345 yX5_wholeName cX5_wholeName 2 (some .long) 0 := ⟨gT5 228 rfl rfl, gT5 225 rfl rfl, gT5 226 rfl rfl, gT5 227 rfl rfl, gT1 3 rfl rfl, by decide, by decide, by decide +kernel⟩
theorem LX10_349 : gLv RX10 349 yX2_taskNamed cX2_taskNamed 4 (some .int) 1 := ⟨gT4 78 rfl rfl, gT5 229 rfl rfl, gT4 76 rfl rfl, gT4 77 rfl rfl, gT1 2 rfl rfl, by decide, by decide, by decide +kernel⟩
theorem LL_85 : gLv RL 85 yX10_add cX10_add 4 (some .int) 2 := ⟨gT5 236 rfl rfl, gT5 233 rfl rfl, gT5 234 rfl rfl, gT5 235 rfl rfl, gT1 1 rfl rfl, by decide, by decide, by decide +kernel⟩
theorem LX10_352 : gLv RX10 352 yX6_bring cX6_bring 5 (some .int) 3 := ⟨gT4 106 rfl rfl, gT5 237 rfl rfl, gT4 104 rfl rfl, gT4 105 rfl rfl, gT1 7 rfl rfl, by decide, by decide, by decide +kernel⟩
theorem LL_88 : gLv RL 88 yX10_cut cX10_cut 2 (some .int) 1 := ⟨gT6 4 rfl rfl, gT6 1 rfl rfl, gT6 2 rfl rfl, gT6 3 rfl rfl, gT1 1 rfl rfl, by decide, by decide, by decide +kernel⟩
theorem LX10_356 : gLv RX10 356 yX8_cutOff cX8_cutOff 6 (some .int) 2 := ⟨gT5 2 rfl rfl, gT6 5 rfl rfl, gT5 0 rfl rfl, gT5 1 rfl rfl, gT1 9 rfl rfl, by decide, by decide, by decide +kernel⟩
theorem LL_91 : gLv RL 91 yX10_swap cX10_swap 2 (some .int) 1 := ⟨gT6 12 rfl rfl, gT6 9 rfl rfl, gT6 10 rfl rfl, gT6 11 rfl rfl, gT1 1 rfl rfl, by decide, by decide, by decide +kernel⟩
theorem LX10_359 : gLv RX10 359 yX2_leadsOn cX2_leadsOn 3 (some .boolean) 1 := ⟨gT5 15 rfl rfl, gT6 13 rfl rfl, gT5 13 rfl rfl, gT5 14 rfl rfl, gT1 2 rfl rfl, by decide, by decide, by decide +kernel⟩
theorem LX10_362 : gLv RX10 362 yX2_swapAt cX2_swapAt 3 none 1 := ⟨gT5 19 rfl rfl, gT6 14 rfl rfl, gT5 17 rfl rfl, gT5 18 rfl rfl, gT1 2 rfl rfl, by decide, by decide, by decide +kernel⟩
theorem LL_94 : gLv RL 94 yX10_setHours cX10_setHours 4 (some .int) 2 := ⟨gT6 21 rfl rfl, gT6 18 rfl rfl, gT6 19 rfl rfl, gT6 20 rfl rfl, gT1 1 rfl rfl, by decide, by decide, by decide +kernel⟩
theorem LL_97 : gLv RL 97 yX10_set cX10_set 4 (some .int) 2 := ⟨gT6 28 rfl rfl, gT6 25 rfl rfl, gT6 26 rfl rfl, gT6 27 rfl rfl, gT1 1 rfl rfl, by decide, by decide, by decide +kernel⟩
theorem LL_100 : gLv RL 100 yX10_writeArrows cX10_writeArrows 3 (some .int) 1 := ⟨gT6 36 rfl rfl, gT6 33 rfl rfl, gT6 34 rfl rfl, gT6 35 rfl rfl, gT1 1 rfl rfl, by decide, by decide, by decide +kernel⟩
theorem LX10_377 : gLv RX10 377 yX4_putName cX4_putName 5 none 1 := ⟨gT3 83 rfl rfl, gT6 37 rfl rfl, gT3 81 rfl rfl, gT3 82 rfl rfl, gT1 4 rfl rfl, by decide, by decide, by decide +kernel⟩
theorem LL_103 : gLv RL 103 yX10_restore cX10_restore 1 (some .int) 0 := ⟨gT6 44 rfl rfl, gT6 41 rfl rfl, gT6 42 rfl rfl, gT6 43 rfl rfl, gT1 1 rfl rfl, by decide, by decide, by decide +kernel⟩
theorem LX11_68 : gLv RX11 68 yX11_joins cX11_joins 6 (some .int) 3 := ⟨gT6 55 rfl rfl, gT6 52 rfl rfl, gT6 54 rfl rfl, gBW_s 27 rfl rfl, gT1 12 rfl rfl, by decide, by decide, by decide +kernel⟩
theorem LX11_78 : gLv RX11 78 yX11_puts cX11_puts 4 none 3 := ⟨gT6 59 rfl rfl, gT6 56 rfl rfl, gT6 58 rfl rfl, gBW_s 28 rfl rfl, gT1 12 rfl rfl, by decide, by decide, by decide +kernel⟩
theorem LL_116 : gLv RL 116 yX11_thrown cX11_thrown 1 (some .int) 0 := ⟨gT6 187 rfl rfl, gT6 184 rfl rfl, gT6 185 rfl rfl, gT6 186 rfl rfl, gT1 12 rfl rfl, by decide, by decide, by decide +kernel⟩
theorem LL_115 : gLv RL 115 yX11_append cX11_append 6 (some .int) 5 := ⟨gT6 191 rfl rfl, gT6 188 rfl rfl, gT6 189 rfl rfl, gT6 190 rfl rfl, gT1 12 rfl rfl, by decide, by decide, by decide +kernel⟩
theorem LX11_212 : gLv RX11 212 yX11_wrong cX11_wrong 2 (some .boolean) 1 := ⟨gT6 195 rfl rfl, gT6 192 rfl rfl, gT6 194 rfl rfl, gBW_s 29 rfl rfl, gT1 12 rfl rfl, by decide, by decide, by decide +kernel⟩
theorem LX11_216 : gLv RX11 216 yX11_four cX11_four 3 none 1 := ⟨gT6 199 rfl rfl, gT6 196 rfl rfl, gT6 198 rfl rfl, gBW_s 30 rfl rfl, gT1 12 rfl rfl, by decide, by decide, by decide +kernel⟩
theorem LL_122 : gLv RL 122 yX11_truncate cX11_truncate 2 (some .int) 1 := ⟨gT6 203 rfl rfl, gT6 200 rfl rfl, gT6 201 rfl rfl, gT6 202 rfl rfl, gT1 12 rfl rfl, by decide, by decide, by decide +kernel⟩
theorem LX11_172 : gLs RX11 172 yX11_in cX11_in 3 (some .boolean) 3 := ⟨gT6 206 rfl rfl, gT6 204 rfl rfl, gT6 205 rfl rfl, gT1 12 rfl rfl, by decide, by decide, by decide +kernel⟩
theorem LL_133 : gLv RL 133 yX11_errorCode cX11_errorCode 1 (some .int) 0 := ⟨gT6 210 rfl rfl, gT6 207 rfl rfl, gT6 208 rfl rfl, gT6 209 rfl rfl, gT1 12 rfl rfl, by decide, by decide, by decide +kernel⟩
theorem LL_137 : gLv RL 137 yX11_errorPosition cX11_errorPosition 1 (some .int) 0 := ⟨gT6 214 rfl rfl, gT6 211 rfl rfl, gT6 212 rfl rfl, gT6 213 rfl rfl, gT1 12 rfl rfl, by decide, by decide, by decide +kernel⟩
theorem LL_126 : gLv RL 126 yX11_readText cX11_readText 3 (some .int) 0 := ⟨gT6 218 rfl rfl, gT6 215 rfl rfl, gT6 216 rfl rfl, gT6 217 rfl rfl, gT1 12 rfl rfl, by decide, by decide, by decide +kernel⟩
theorem LX11_312 : gLv RX11 312 yX11_keepsBefore cX11_keepsBefore 2 none 0 := ⟨gT6 222 rfl rfl, gT6 219 rfl rfl, gT6 221 rfl rfl, gBW_s 31 rfl rfl, gT1 12 rfl rfl, by decide, by decide, by decide +kernel⟩
theorem LX11_315 : gLv RX11 315 yX11_starts cX11_starts 1 none 0 := ⟨gT6 226 rfl rfl, gT6 223 rfl rfl, gT6 225 rfl rfl, gBW_s 32 rfl rfl, gT1 12 rfl rfl, by decide, by decide, by decide +kernel⟩
theorem LX11_260 : gLv RX11 260 yX11_goesOn cX11_goesOn 1 none 0 := ⟨gT6 230 rfl rfl, gT6 227 rfl rfl, gT6 229 rfl rfl, gBW_s 33 rfl rfl, gT1 12 rfl rfl, by decide, by decide, by decide +kernel⟩
theorem LX11_219 : gLv RX11 219 yX11_at cX11_at 2 (some .int) 1 := ⟨gT6 234 rfl rfl, gT6 231 rfl rfl, gT6 233 rfl rfl, gBW_s 34 rfl rfl, gT1 12 rfl rfl, by decide, by decide, by decide +kernel⟩
theorem LX11_234 : gLv RX11 234 yX11_isLetter cX11_isLetter 2 (some .boolean) 1 := ⟨gT6 238 rfl rfl, gT6 235 rfl rfl, gT6 237 rfl rfl, gBW_s 35 rfl rfl, gT1 12 rfl rfl, by decide, by decide, by decide +kernel⟩
theorem LX11_237 : gLv RX11 237 yX11_isDigit cX11_isDigit 2 (some .boolean) 1 := ⟨gT7 2 rfl rfl, gT6 239 rfl rfl, gT7 1 rfl rfl, gBW_s 36 rfl rfl, gT1 12 rfl rfl, by decide, by decide, by decide +kernel⟩
theorem LX11_318 : gLv RX11 318 yX11_readsAll cX11_readsAll 1 (some .boolean) 0 := ⟨gT7 6 rfl rfl, gT7 3 rfl rfl, gT7 5 rfl rfl, gBW_s 37 rfl rfl, gT1 12 rfl rfl, by decide, by decide, by decide +kernel⟩
theorem LX11_290 : gLv RX11 290 yX11_says cX11_says 3 (some .boolean) 1 := ⟨gT7 11 rfl rfl, gT7 8 rfl rfl, gT7 10 rfl rfl, gBW_s 38 rfl rfl, gT1 12 rfl rfl, by decide, by decide, by decide +kernel⟩
theorem LX11_246 : gLv RX11 246 yJ0_length_8abf5 cJ0_length_8abf5 1 (some .int) 0 := ⟨gT4 16 rfl rfl, gT7 12 rfl rfl, gT4 14 rfl rfl, gT4 15 rfl rfl, gT1 19 rfl rfl, by decide, by decide, by decide +kernel⟩
theorem LX11_250 : gLv RX11 250 yJ0_charAt_5068e cJ0_charAt_5068e 2 (some .char) 1 := ⟨gT4 26 rfl rfl, gT7 13 rfl rfl, gT4 24 rfl rfl, gT4 25 rfl rfl, gT1 19 rfl rfl, by decide, by decide, by decide +kernel⟩
theorem LX11_254 : gLv RX11 254 yX11_fails cX11_fails 2 (some .boolean) 1 := ⟨gT7 17 rfl rfl, gT7 14 rfl rfl, gT7 16 rfl rfl, gBW_s 39 rfl rfl, gT1 12 rfl rfl, by decide, by decide, by decide +kernel⟩
theorem LX11_309 : gLv RX11 309 yX11_readsStatement cX11_readsStatement 1 (some .boolean) 0 := ⟨gT7 21 rfl rfl, gT7 18 rfl rfl, gT7 20 rfl rfl, gBW_s 40 rfl rfl, gT1 12 rfl rfl, by decide, by decide, by decide +kernel⟩
theorem LX11_294 : gLv RX11 294 yX11_readsTask cX11_readsTask 4 (some .boolean) 0 := ⟨gT7 25 rfl rfl, gT7 22 rfl rfl, gT7 24 rfl rfl, gBW_s 41 rfl rfl, gT1 12 rfl rfl, by decide, by decide, by decide +kernel⟩
theorem LX11_263 : gLv RX11 263 yX11_isNameHere cX11_isNameHere 1 (some .boolean) 0 := ⟨gT7 29 rfl rfl, gT7 26 rfl rfl, gT7 28 rfl rfl, gBW_s 42 rfl rfl, gT1 12 rfl rfl, by decide, by decide, by decide +kernel⟩
theorem LX11_267 : gLv RX11 267 yX11_named cX11_named 6 (some .int) 2 := ⟨gT7 33 rfl rfl, gT7 30 rfl rfl, gT7 32 rfl rfl, gBW_s 43 rfl rfl, gT1 12 rfl rfl, by decide, by decide, by decide +kernel⟩
theorem LX11_82 : gLv RX11 82 yX11_of cX11_of 3 (some .int) 2 := ⟨gT7 37 rfl rfl, gT7 34 rfl rfl, gT7 36 rfl rfl, gBW_s 44 rfl rfl, gT1 12 rfl rfl, by decide, by decide, by decide +kernel⟩
theorem LX11_276 : gLv RX11 276 yX11_takes cX11_takes 3 (some .boolean) 2 := ⟨gT7 41 rfl rfl, gT7 38 rfl rfl, gT7 40 rfl rfl, gBW_s 45 rfl rfl, gT1 12 rfl rfl, by decide, by decide, by decide +kernel⟩
theorem LX11_299 : gLv RX11 299 yX11_readsArrow cX11_readsArrow 2 (some .boolean) 0 := ⟨gT7 46 rfl rfl, gT7 43 rfl rfl, gT7 45 rfl rfl, gBW_s 46 rfl rfl, gT1 12 rfl rfl, by decide, by decide, by decide +kernel⟩
theorem LX11_279 : gLv RX11 279 yX11_takesTask cX11_takesTask 1 (some .boolean) 0 := ⟨gT7 50 rfl rfl, gT7 47 rfl rfl, gT7 49 rfl rfl, gBW_s 47 rfl rfl, gT1 12 rfl rfl, by decide, by decide, by decide +kernel⟩
theorem LX11_270 : gLv RX11 270 yX11_seesTask cX11_seesTask 1 (some .boolean) 0 := ⟨gT7 54 rfl rfl, gT7 51 rfl rfl, gT7 53 rfl rfl, gBW_s 48 rfl rfl, gT1 12 rfl rfl, by decide, by decide, by decide +kernel⟩
theorem LX11_282 : gLv RX11 282 yX11_comes cX11_comes 5 (some .int) 2 := ⟨gT7 58 rfl rfl, gT7 55 rfl rfl, gT7 57 rfl rfl, gBW_s 49 rfl rfl, gT1 12 rfl rfl, by decide, by decide, by decide +kernel⟩
theorem LX11_182 : gLv RX11 182 yX11_reason cX11_reason 3 (some .int) 2 := ⟨gT7 62 rfl rfl, gT7 59 rfl rfl, gT7 61 rfl rfl, gBW_s 50 rfl rfl, gT1 12 rfl rfl, by decide, by decide, by decide +kernel⟩
theorem LX11_123 : gLv RX11 123 yX11_arrowFrom cX11_arrowFrom 4 (some .int) 2 := ⟨gT7 66 rfl rfl, gT7 63 rfl rfl, gT7 65 rfl rfl, gBW_s 51 rfl rfl, gT1 12 rfl rfl, by decide, by decide, by decide +kernel⟩
theorem LX11_126 : gLv RX11 126 yX11_needsRepair cX11_needsRepair 3 (some .boolean) 2 := ⟨gT7 70 rfl rfl, gT7 67 rfl rfl, gT7 69 rfl rfl, gBW_s 52 rfl rfl, gT1 12 rfl rfl, by decide, by decide, by decide +kernel⟩
theorem LX11_101 : gLv RX11 101 yX11_placeOf cX11_placeOf 2 (some .int) 1 := ⟨gT7 74 rfl rfl, gT7 71 rfl rfl, gT7 73 rfl rfl, gBW_s 53 rfl rfl, gT1 12 rfl rfl, by decide, by decide, by decide +kernel⟩
theorem LX11_86 : gLv RX11 86 yX11_placeOfHead cX11_placeOfHead 3 (some .int) 1 := ⟨gT7 78 rfl rfl, gT7 75 rfl rfl, gT7 77 rfl rfl, gBW_s 54 rfl rfl, gT1 12 rfl rfl, by decide, by decide, by decide +kernel⟩
theorem LX11_129 : gLv RX11 129 yX11_laysPart cX11_laysPart 5 none 2 := ⟨gT7 82 rfl rfl, gT7 79 rfl rfl, gT7 81 rfl rfl, gBW_s 55 rfl rfl, gT1 12 rfl rfl, by decide, by decide, by decide +kernel⟩
theorem LX11_104 : gLv RX11 104 yX11_laysReach cX11_laysReach 4 none 1 := ⟨gT7 86 rfl rfl, gT7 83 rfl rfl, gT7 85 rfl rfl, gBW_s 56 rfl rfl, gT1 12 rfl rfl, by decide, by decide, by decide +kernel⟩
theorem LX11_93 : gLs RX11 93 yX11_has cX11_has 2 (some .boolean) 2 := ⟨gT7 89 rfl rfl, gT7 87 rfl rfl, gT7 88 rfl rfl, gT1 12 rfl rfl, by decide, by decide, by decide +kernel⟩
theorem LX11_97 : gLv RX11 97 yX11_isInner cX11_isInner 2 (some .boolean) 1 := ⟨gT7 93 rfl rfl, gT7 90 rfl rfl, gT7 92 rfl rfl, gBW_s 57 rfl rfl, gT1 12 rfl rfl, by decide, by decide, by decide +kernel⟩
theorem LX11_185 : gLv RX11 185 yX11_counts cX11_counts 3 none 2 := ⟨gT7 97 rfl rfl, gT7 94 rfl rfl, gT7 96 rfl rfl, gBW_s 58 rfl rfl, gT1 12 rfl rfl, by decide, by decide, by decide +kernel⟩
theorem LX11_139 : gLs RX11 139 yX11_many cX11_many 3 (some .int) 1 := ⟨gT7 100 rfl rfl, gT7 98 rfl rfl, gT7 99 rfl rfl, gT1 12 rfl rfl, by decide, by decide, by decide +kernel⟩
theorem LX11_188 : gLv RX11 188 yX11_repairs cX11_repairs 6 (some .int) 0 := ⟨gT7 104 rfl rfl, gT7 101 rfl rfl, gT7 103 rfl rfl, gBW_s 59 rfl rfl, gT1 12 rfl rfl, by decide, by decide, by decide +kernel⟩
theorem LX11_166 : gLv RX11 166 yX11_leastHead cX11_leastHead 4 (some .int) 1 := ⟨gT7 108 rfl rfl, gT7 105 rfl rfl, gT7 107 rfl rfl, gBW_s 60 rfl rfl, gT1 12 rfl rfl, by decide, by decide, by decide +kernel⟩
theorem LX11_169 : gLv RX11 169 yX11_ordersPart cX11_ordersPart 1 none 0 := ⟨gT7 113 rfl rfl, gT7 110 rfl rfl, gT7 112 rfl rfl, gBW_s 61 rfl rfl, gT1 12 rfl rfl, by decide, by decide, by decide +kernel⟩
theorem LX11_148 : gLv RX11 148 yX11_deals cX11_deals 4 none 0 := ⟨gT7 117 rfl rfl, gT7 114 rfl rfl, gT7 116 rfl rfl, gBW_s 62 rfl rfl, gT1 12 rfl rfl, by decide, by decide, by decide +kernel⟩
theorem LX11_136 : gLv RX11 136 yX11_adds cX11_adds 2 none 1 := ⟨gT7 121 rfl rfl, gT7 118 rfl rfl, gT7 120 rfl rfl, gBW_s 63 rfl rfl, gT1 12 rfl rfl, by decide, by decide, by decide +kernel⟩
theorem LX11_145 : gLv RX11 145 yX11_dealt cX11_dealt 6 (some .int) 1 := ⟨gT7 125 rfl rfl, gT7 122 rfl rfl, gT7 124 rfl rfl, gBW_s 64 rfl rfl, gT1 12 rfl rfl, by decide, by decide, by decide +kernel⟩
theorem LX11_142 : gLv RX11 142 yX11_nth cX11_nth 5 (some .int) 2 := ⟨gT7 129 rfl rfl, gT7 126 rfl rfl, gT7 128 rfl rfl, gBW_s 65 rfl rfl, gT1 12 rfl rfl, by decide, by decide, by decide +kernel⟩
theorem LX11_151 : gLv RX11 151 yX11_affected cX11_affected 3 (some .int) 0 := ⟨gT7 133 rfl rfl, gT7 130 rfl rfl, gT7 132 rfl rfl, gBW_s 66 rfl rfl, gT1 12 rfl rfl, by decide, by decide, by decide +kernel⟩
theorem LX11_155 : gLv RX11 155 yX11_addsAll cX11_addsAll 3 none 1 := ⟨gT7 137 rfl rfl, gT7 134 rfl rfl, gT7 136 rfl rfl, gBW_s 67 rfl rfl, gT1 12 rfl rfl, by decide, by decide, by decide +kernel⟩
theorem LX11_158 : gLv RX11 158 yX11_addsJoined cX11_addsJoined 1 none 0 := ⟨gT7 141 rfl rfl, gT7 138 rfl rfl, gT7 140 rfl rfl, gBW_s 68 rfl rfl, gT1 12 rfl rfl, by decide, by decide, by decide +kernel⟩
theorem LX11_176 : gLv RX11 176 yX11_movedFrom cX11_movedFrom 6 (some .int) 0 := ⟨gT7 145 rfl rfl, gT7 142 rfl rfl, gT7 144 rfl rfl, gBW_s 69 rfl rfl, gT1 12 rfl rfl, by decide, by decide, by decide +kernel⟩
theorem LX11_179 : gLv RX11 179 yX11_membersAt cX11_membersAt 2 (some .int) 1 := ⟨gT7 149 rfl rfl, gT7 146 rfl rfl, gT7 148 rfl rfl, gBW_s 70 rfl rfl, gT1 12 rfl rfl, by decide, by decide, by decide +kernel⟩
theorem LX11_90 : gLv RX11 90 yX11_members cX11_members 4 (some .int) 1 := ⟨gT7 153 rfl rfl, gT7 150 rfl rfl, gT7 152 rfl rfl, gBW_s 71 rfl rfl, gT1 12 rfl rfl, by decide, by decide, by decide +kernel⟩
theorem LX11_304 : gLv RX11 304 yX11_readsOnce cX11_readsOnce 4 (some .boolean) 3 := ⟨gT7 158 rfl rfl, gT7 155 rfl rfl, gT7 157 rfl rfl, gBW_s 72 rfl rfl, gT1 12 rfl rfl, by decide, by decide, by decide +kernel⟩
theorem LX11_321 : gLv RX11 321 yX11_ends cX11_ends 1 (some .boolean) 0 := ⟨gT7 163 rfl rfl, gT7 160 rfl rfl, gT7 162 rfl rfl, gBW_s 73 rfl rfl, gT1 12 rfl rfl, by decide, by decide, by decide +kernel⟩
theorem LX11_324 : gLv RX11 324 yX11_laysBefore cX11_laysBefore 2 none 0 := ⟨gT7 167 rfl rfl, gT7 164 rfl rfl, gT7 166 rfl rfl, gBW_s 74 rfl rfl, gT1 12 rfl rfl, by decide, by decide, by decide +kernel⟩
theorem LL_129 : gLv RL 129 yX11_runOrders cX11_runOrders 3 (some .int) 0 := ⟨gT7 171 rfl rfl, gT7 168 rfl rfl, gT7 169 rfl rfl, gT7 170 rfl rfl, gT1 12 rfl rfl, by decide, by decide, by decide +kernel⟩
theorem LX11_365 : gLv RX11 365 yX11_readsOrders cX11_readsOrders 1 (some .boolean) 0 := ⟨gT7 175 rfl rfl, gT7 172 rfl rfl, gT7 174 rfl rfl, gBW_s 75 rfl rfl, gT1 12 rfl rfl, by decide, by decide, by decide +kernel⟩
theorem LX11_347 : gLv RX11 347 yX11_readsOrder cX11_readsOrder 2 (some .boolean) 0 := ⟨gT7 179 rfl rfl, gT7 176 rfl rfl, gT7 178 rfl rfl, gBW_s 76 rfl rfl, gT1 12 rfl rfl, by decide, by decide, by decide +kernel⟩
theorem LX11_335 : gLv RX11 335 yX11_orderHere cX11_orderHere 1 (some .int) 0 := ⟨gT7 183 rfl rfl, gT7 180 rfl rfl, gT7 182 rfl rfl, gBW_s 77 rfl rfl, gT1 12 rfl rfl, by decide, by decide, by decide +kernel⟩
theorem LX11_341 : gLv RX11 341 yX11_readsFirst cX11_readsFirst 2 (some .boolean) 1 := ⟨gT7 191 rfl rfl, gT7 188 rfl rfl, gT7 190 rfl rfl, gBW_s 78 rfl rfl, gT1 12 rfl rfl, by decide, by decide, by decide +kernel⟩
theorem LX11_344 : gLv RX11 344 yX11_readsSecond cX11_readsSecond 2 (some .boolean) 1 := ⟨gT7 195 rfl rfl, gT7 192 rfl rfl, gT7 194 rfl rfl, gBW_s 79 rfl rfl, gT1 12 rfl rfl, by decide, by decide, by decide +kernel⟩
theorem LX11_368 : gLv RX11 368 yX11_goesAside cX11_goesAside 2 none 0 := ⟨gT7 199 rfl rfl, gT7 196 rfl rfl, gT7 198 rfl rfl, gBW_s 80 rfl rfl, gT1 12 rfl rfl, by decide, by decide, by decide +kernel⟩
theorem LX11_371 : gLv RX11 371 yX11_keeps cX11_keeps 2 none 0 := ⟨gT7 203 rfl rfl, gT7 200 rfl rfl, gT7 202 rfl rfl, gBW_s 81 rfl rfl, gT1 12 rfl rfl, by decide, by decide, by decide +kernel⟩
theorem LX11_374 : gLv RX11 374 yX11_does cX11_does 4 (some .int) 1 := ⟨gT7 207 rfl rfl, gT7 204 rfl rfl, gT7 206 rfl rfl, gBW_s 82 rfl rfl, gT1 12 rfl rfl, by decide, by decide, by decide +kernel⟩
theorem LX11_353 : gLv RX11 353 yX11_cutsFrom cX11_cutsFrom 4 (some .int) 2 := ⟨gT7 211 rfl rfl, gT7 208 rfl rfl, gT7 210 rfl rfl, gBW_s 83 rfl rfl, gT1 12 rfl rfl, by decide, by decide, by decide +kernel⟩
theorem LX11_350 : gLv RX11 350 yX11_cuts cX11_cuts 7 (some .int) 1 := ⟨gT7 215 rfl rfl, gT7 212 rfl rfl, gT7 214 rfl rfl, gBW_s 84 rfl rfl, gT1 12 rfl rfl, by decide, by decide, by decide +kernel⟩
theorem LX11_197 : gLv RX11 197 yX11_takesAway cX11_takesAway 3 none 1 := ⟨gT7 219 rfl rfl, gT7 216 rfl rfl, gT7 218 rfl rfl, gBW_s 85 rfl rfl, gT1 12 rfl rfl, by decide, by decide, by decide +kernel⟩
theorem LX11_200 : gLv RX11 200 yX11_laysGroups cX11_laysGroups 5 (some .int) 1 := ⟨gT7 223 rfl rfl, gT7 220 rfl rfl, gT7 222 rfl rfl, gBW_s 86 rfl rfl, gT1 12 rfl rfl, by decide, by decide, by decide +kernel⟩
theorem LX11_203 : gLv RX11 203 yX11_sortsHeads cX11_sortsHeads 6 none 1 := ⟨gT7 227 rfl rfl, gT7 224 rfl rfl, gT7 226 rfl rfl, gBW_s 87 rfl rfl, gT1 12 rfl rfl, by decide, by decide, by decide +kernel⟩
theorem LX11_191 : gLv RX11 191 yX11_isBehind cX11_isBehind 5 (some .boolean) 3 := ⟨gT7 231 rfl rfl, gT7 228 rfl rfl, gT7 230 rfl rfl, gBW_s 88 rfl rfl, gT1 12 rfl rfl, by decide, by decide, by decide +kernel⟩
theorem LX11_194 : gLv RX11 194 yX11_leads cX11_leads 4 (some .boolean) 2 := ⟨gT7 235 rfl rfl, gT7 232 rfl rfl, gT7 234 rfl rfl, gBW_s 89 rfl rfl, gT1 12 rfl rfl, by decide, by decide, by decide +kernel⟩
theorem LX11_356 : gLv RX11 356 yX11_becomes cX11_becomes 4 (some .int) 2 := ⟨gT7 239 rfl rfl, gT7 236 rfl rfl, gT7 238 rfl rfl, gBW_s 90 rfl rfl, gT1 12 rfl rfl, by decide, by decide, by decide +kernel⟩
theorem LX11_359 : gLv RX11 359 yX11_swaps cX11_swaps 4 (some .int) 1 := ⟨gT8 3 rfl rfl, gT8 0 rfl rfl, gT8 2 rfl rfl, gBW_s 91 rfl rfl, gT1 12 rfl rfl, by decide, by decide, by decide +kernel⟩
theorem LX11_362 : gLv RX11 362 yX11_refreshes cX11_refreshes 3 (some .int) 0 := ⟨gT8 7 rfl rfl, gT8 4 rfl rfl, gT8 6 rfl rfl, gBW_s 92 rfl rfl, gT1 12 rfl rfl, by decide, by decide, by decide +kernel⟩
theorem LX11_206 : gLv RX11 206 yX11_laysFresh cX11_laysFresh 3 none 0 := ⟨gT8 11 rfl rfl, gT8 8 rfl rfl, gT8 10 rfl rfl, gBW_s 93 rfl rfl, gT1 12 rfl rfl, by decide, by decide, by decide +kernel⟩
theorem LL_140 : gLv RL 140 yX11_size cX11_size 2 (some .int) 1 := ⟨gT8 15 rfl rfl, gT8 12 rfl rfl, gT8 13 rfl rfl, gT8 14 rfl rfl, gT1 12 rfl rfl, by decide, by decide, by decide +kernel⟩
theorem LX11_380 : gLv RX11 380 yX11_largest cX11_largest 3 (some .int) 0 := ⟨gT8 19 rfl rfl, gT8 16 rfl rfl, gT8 18 rfl rfl, gBW_s 94 rfl rfl, gT1 12 rfl rfl, by decide, by decide, by decide +kernel⟩
theorem LX11_383 : gLv RX11 383 yX11_inners cX11_inners 3 (some .int) 0 := ⟨gT8 24 rfl rfl, gT8 21 rfl rfl, gT8 23 rfl rfl, gBW_s 95 rfl rfl, gT1 12 rfl rfl, by decide, by decide, by decide +kernel⟩
theorem LX11_386 : gLv RX11 386 yX11_groupsOfMore cX11_groupsOfMore 3 (some .int) 0 := ⟨gT8 28 rfl rfl, gT8 25 rfl rfl, gT8 27 rfl rfl, gBW_s 96 rfl rfl, gT1 12 rfl rfl, by decide, by decide, by decide +kernel⟩
theorem LL_144 : gLv RL 144 yX11_task cX11_task 3 (some .int) 2 := ⟨gT8 32 rfl rfl, gT8 29 rfl rfl, gT8 30 rfl rfl, gT8 31 rfl rfl, gT1 12 rfl rfl, by decide, by decide, by decide +kernel⟩
theorem LX11_389 : gLv RX11 389 yX11_noTask cX11_noTask 2 (some .boolean) 1 := ⟨gT8 36 rfl rfl, gT8 33 rfl rfl, gT8 35 rfl rfl, gBW_s 97 rfl rfl, gT1 12 rfl rfl, by decide, by decide, by decide +kernel⟩
theorem LX11_392 : gLv RX11 392 yX11_throwsIf cX11_throwsIf 3 (some .boolean) 2 := ⟨gT8 40 rfl rfl, gT8 37 rfl rfl, gT8 39 rfl rfl, gBW_s 98 rfl rfl, gT1 12 rfl rfl, by decide, by decide, by decide +kernel⟩
theorem LX11_396 : gLv RX11 396 yX11_arrowsOf cX11_arrowsOf 5 (some .int) 2 := ⟨gT8 44 rfl rfl, gT8 41 rfl rfl, gT8 43 rfl rfl, gBW_s 99 rfl rfl, gT1 12 rfl rfl, by decide, by decide, by decide +kernel⟩
theorem LX11_400 : gLv RX11 400 yX11_reaching cX11_reaching 4 (some .int) 1 := ⟨gT8 48 rfl rfl, gT8 45 rfl rfl, gT8 47 rfl rfl, gBW_s 100 rfl rfl, gT1 12 rfl rfl, by decide, by decide, by decide +kernel⟩
theorem LL_147 : gLv RL 147 yX11_letter cX11_letter 3 (some .int) 2 := ⟨gT8 52 rfl rfl, gT8 49 rfl rfl, gT8 50 rfl rfl, gT8 51 rfl rfl, gT1 12 rfl rfl, by decide, by decide, by decide +kernel⟩
theorem LL_150 : gLv RL 150 yX11_group cX11_group 3 (some .int) 2 := ⟨gT8 56 rfl rfl, gT8 53 rfl rfl, gT8 54 rfl rfl, gT8 55 rfl rfl, gT1 12 rfl rfl, by decide, by decide, by decide +kernel⟩
theorem LX11_409 : gLv RX11 409 yX11_noPlace cX11_noPlace 2 (some .boolean) 1 := ⟨gT8 60 rfl rfl, gT8 57 rfl rfl, gT8 59 rfl rfl, gBW_s 101 rfl rfl, gT1 12 rfl rfl, by decide, by decide, by decide +kernel⟩
theorem LX11_412 : gLv RX11 412 yX11_laysChains cX11_laysChains 3 none 0 := ⟨gT8 64 rfl rfl, gT8 61 rfl rfl, gT8 63 rfl rfl, gBW_s 102 rfl rfl, gT1 12 rfl rfl, by decide, by decide, by decide +kernel⟩
theorem LX11_406 : gLv RX11 406 yX11_hoursOf cX11_hoursOf 4 (some .int) 1 := ⟨gT8 68 rfl rfl, gT8 65 rfl rfl, gT8 67 rfl rfl, gBW_s 103 rfl rfl, gT1 12 rfl rfl, by decide, by decide, by decide +kernel⟩
theorem LX11_415 : gLv RX11 415 yX11_innersOf cX11_innersOf 4 (some .int) 1 := ⟨gT8 72 rfl rfl, gT8 69 rfl rfl, gT8 71 rfl rfl, gBW_s 104 rfl rfl, gT1 12 rfl rfl, by decide, by decide, by decide +kernel⟩
theorem LX11_418 : gLv RX11 418 yX11_slack cX11_slack 2 (some .int) 1 := ⟨gT8 76 rfl rfl, gT8 73 rfl rfl, gT8 75 rfl rfl, gBW_s 105 rfl rfl, gT1 12 rfl rfl, by decide, by decide, by decide +kernel⟩
theorem LL_153 : gLv RL 153 yX11_arrow cX11_arrow 3 (some .int) 2 := ⟨gT8 80 rfl rfl, gT8 77 rfl rfl, gT8 78 rfl rfl, gT8 79 rfl rfl, gT1 12 rfl rfl, by decide, by decide, by decide +kernel⟩
theorem LX11_421 : gLv RX11 421 yX11_noArrow cX11_noArrow 2 (some .boolean) 1 := ⟨gT8 84 rfl rfl, gT8 81 rfl rfl, gT8 83 rfl rfl, gBW_s 106 rfl rfl, gT1 12 rfl rfl, by decide, by decide, by decide +kernel⟩
theorem LL_156 : gLv RL 156 yX11_arrowOf cX11_arrowOf 3 (some .int) 2 := ⟨gT8 88 rfl rfl, gT8 85 rfl rfl, gT8 86 rfl rfl, gT8 87 rfl rfl, gT1 12 rfl rfl, by decide, by decide, by decide +kernel⟩
theorem LX11_424 : gLv RX11 424 yX11_noTasks cX11_noTasks 3 (some .boolean) 2 := ⟨gT8 92 rfl rfl, gT8 89 rfl rfl, gT8 91 rfl rfl, gBW_s 107 rfl rfl, gT1 12 rfl rfl, by decide, by decide, by decide +kernel⟩
theorem LL_159 : gLv RL 159 yX11_reaches cX11_reaches 3 (some .boolean) 2 := ⟨gT8 96 rfl rfl, gT8 93 rfl rfl, gT8 94 rfl rfl, gT8 95 rfl rfl, gT1 12 rfl rfl, by decide, by decide, by decide +kernel⟩
theorem LL_162 : gLv RL 162 yX11_far cX11_far 3 (some .int) 2 := ⟨gT8 100 rfl rfl, gT8 97 rfl rfl, gT8 98 rfl rfl, gT8 99 rfl rfl, gT1 12 rfl rfl, by decide, by decide, by decide +kernel⟩
theorem LX11_427 : gLv RX11 427 yX11_laysSteps cX11_laysSteps 4 none 1 := ⟨gT8 104 rfl rfl, gT8 101 rfl rfl, gT8 103 rfl rfl, gBW_s 108 rfl rfl, gT1 12 rfl rfl, by decide, by decide, by decide +kernel⟩
theorem LL_166 : gLv RL 166 yX11_on cX11_on 6 (some .int) 3 := ⟨gT8 108 rfl rfl, gT8 105 rfl rfl, gT8 106 rfl rfl, gT8 107 rfl rfl, gT1 12 rfl rfl, by decide, by decide, by decide +kernel⟩
theorem LX11_430 : gLv RX11 430 yX11_nextOn cX11_nextOn 6 (some .int) 1 := ⟨gT8 112 rfl rfl, gT8 109 rfl rfl, gT8 111 rfl rfl, gBW_s 109 rfl rfl, gT1 12 rfl rfl, by decide, by decide, by decide +kernel⟩
theorem LL_169 : gLv RL 169 yX11_trial cX11_trial 5 (some .int) 3 := ⟨gT8 116 rfl rfl, gT8 113 rfl rfl, gT8 114 rfl rfl, gT8 115 rfl rfl, gT1 12 rfl rfl, by decide, by decide, by decide +kernel⟩
theorem LX11_433 : gLv RX11 433 yX11_wouldMove cX11_wouldMove 4 (some .int) 3 := ⟨gT8 120 rfl rfl, gT8 117 rfl rfl, gT8 119 rfl rfl, gBW_s 110 rfl rfl, gT1 12 rfl rfl, by decide, by decide, by decide +kernel⟩
theorem LX11_436 : gLv RX11 436 yX11_comesBack cX11_comesBack 3 (some .int) 1 := ⟨gT8 124 rfl rfl, gT8 121 rfl rfl, gT8 123 rfl rfl, gBW_s 111 rfl rfl, gT1 12 rfl rfl, by decide, by decide, by decide +kernel⟩
theorem LL_172 : gLv RL 172 yX11_why cX11_why 5 (some .int) 3 := ⟨gT8 128 rfl rfl, gT8 125 rfl rfl, gT8 126 rfl rfl, gT8 127 rfl rfl, gT1 12 rfl rfl, by decide, by decide, by decide +kernel⟩
theorem LL_175 : gLv RL 175 yX11_bestMode cX11_bestMode 7 (some .int) 2 := ⟨gT8 132 rfl rfl, gT8 129 rfl rfl, gT8 130 rfl rfl, gT8 131 rfl rfl, gT1 12 rfl rfl, by decide, by decide, by decide +kernel⟩
theorem LL_178 : gLv RL 178 yX11_leastPlace cX11_leastPlace 4 (some .int) 1 := ⟨gT8 136 rfl rfl, gT8 133 rfl rfl, gT8 134 rfl rfl, gT8 135 rfl rfl, gT1 12 rfl rfl, by decide, by decide, by decide +kernel⟩
theorem LL_181 : gLv RL 181 yX11_mostPlace cX11_mostPlace 4 (some .int) 1 := ⟨gT8 140 rfl rfl, gT8 137 rfl rfl, gT8 138 rfl rfl, gT8 139 rfl rfl, gT1 12 rfl rfl, by decide, by decide, by decide +kernel⟩
theorem LL_184 : gLv RL 184 yX11_fresh cX11_fresh 2 (some .int) 1 := ⟨gT8 144 rfl rfl, gT8 141 rfl rfl, gT8 142 rfl rfl, gT8 143 rfl rfl, gT1 12 rfl rfl, by decide, by decide, by decide +kernel⟩
theorem LL_188 : gLv RL 188 yX11_turned cX11_turned 4 (some .int) 0 := ⟨gT8 148 rfl rfl, gT8 145 rfl rfl, gT8 146 rfl rfl, gT8 147 rfl rfl, gT1 12 rfl rfl, by decide, by decide, by decide +kernel⟩
theorem LL_192 : gLv RL 192 yX11_length cX11_length 1 (some .int) 0 := ⟨gT8 152 rfl rfl, gT8 149 rfl rfl, gT8 150 rfl rfl, gT8 151 rfl rfl, gT1 12 rfl rfl, by decide, by decide, by decide +kernel⟩
theorem LL_196 : gLv RL 196 yX11_tight cX11_tight 3 (some .int) 0 := ⟨gT8 156 rfl rfl, gT8 153 rfl rfl, gT8 154 rfl rfl, gT8 155 rfl rfl, gT1 12 rfl rfl, by decide, by decide, by decide +kernel⟩
theorem LL_200 : gLv RL 200 yX11_gap cX11_gap 5 (some .int) 0 := ⟨gT8 160 rfl rfl, gT8 157 rfl rfl, gT8 158 rfl rfl, gT8 159 rfl rfl, gT1 12 rfl rfl, by decide, by decide, by decide +kernel⟩
theorem LL_204 : gLv RL 204 yX11_weakest cX11_weakest 5 (some .int) 0 := ⟨gT8 164 rfl rfl, gT8 161 rfl rfl, gT8 162 rfl rfl, gT8 163 rfl rfl, gT1 12 rfl rfl, by decide, by decide, by decide +kernel⟩
theorem LX11_439 : gLv RX11 439 yX11_groupsBy cX11_groupsBy 2 (some .int) 1 := ⟨gT8 168 rfl rfl, gT8 165 rfl rfl, gT8 167 rfl rfl, gBW_s 112 rfl rfl, gT1 12 rfl rfl, by decide, by decide, by decide +kernel⟩
theorem LL_208 : gLv RL 208 yX11_needless cX11_needless 3 (some .int) 0 := ⟨gT8 172 rfl rfl, gT8 169 rfl rfl, gT8 170 rfl rfl, gT8 171 rfl rfl, gT1 12 rfl rfl, by decide, by decide, by decide +kernel⟩
theorem LL_211 : gLv RL 211 yX11_account cX11_account 2 (some .long) 1 := ⟨gT8 176 rfl rfl, gT8 173 rfl rfl, gT8 174 rfl rfl, gT8 175 rfl rfl, gT1 12 rfl rfl, by decide, by decide, by decide +kernel⟩
theorem LL_216 : gLv RL 216 yX11_innerShare cX11_innerShare 1 (some .float) 0 := ⟨gT8 180 rfl rfl, gT8 177 rfl rfl, gT8 178 rfl rfl, gT8 179 rfl rfl, gT1 12 rfl rfl, by decide, by decide, by decide +kernel⟩
theorem LL_221 : gLv RL 221 yX11_meanMoved cX11_meanMoved 1 (some .double) 0 := ⟨gT8 184 rfl rfl, gT8 181 rfl rfl, gT8 182 rfl rfl, gT8 183 rfl rfl, gT1 12 rfl rfl, by decide, by decide, by decide +kernel⟩
theorem LL_224 : gLv RL 224 yX11_make cX11_make 2 (some .int) 1 := ⟨gT8 188 rfl rfl, gT8 185 rfl rfl, gT8 186 rfl rfl, gT8 187 rfl rfl, gT1 12 rfl rfl, by decide, by decide, by decide +kernel⟩
theorem LX11_445 : gLv RX11 445 yX11_makes cX11_makes 3 (some .int) 1 := ⟨gT8 192 rfl rfl, gT8 189 rfl rfl, gT8 191 rfl rfl, gBW_s 113 rfl rfl, gT1 12 rfl rfl, by decide, by decide, by decide +kernel⟩
theorem LX11_442 : gLv RX11 442 yX11_isName cX11_isName 2 (some .boolean) 0 := ⟨gT8 196 rfl rfl, gT8 193 rfl rfl, gT8 195 rfl rfl, gBW_s 114 rfl rfl, gT1 12 rfl rfl, by decide, by decide, by decide +kernel⟩
theorem LX11_448 : gLv RX11 448 yX11_done cX11_done 2 (some .int) 1 := ⟨gT8 200 rfl rfl, gT8 197 rfl rfl, gT8 199 rfl rfl, gBW_s 115 rfl rfl, gT1 12 rfl rfl, by decide, by decide, by decide +kernel⟩
theorem LL_227 : gLv RL 227 yX11_add cX11_add 3 (some .int) 2 := ⟨gT8 204 rfl rfl, gT8 201 rfl rfl, gT8 202 rfl rfl, gT8 203 rfl rfl, gT1 12 rfl rfl, by decide, by decide, by decide +kernel⟩
theorem LL_230 : gLv RL 230 yX11_cut cX11_cut 2 (some .int) 1 := ⟨gT8 208 rfl rfl, gT8 205 rfl rfl, gT8 206 rfl rfl, gT8 207 rfl rfl, gT1 12 rfl rfl, by decide, by decide, by decide +kernel⟩
theorem LL_233 : gLv RL 233 yX11_swap cX11_swap 2 (some .int) 1 := ⟨gT8 212 rfl rfl, gT8 209 rfl rfl, gT8 210 rfl rfl, gT8 211 rfl rfl, gT1 12 rfl rfl, by decide, by decide, by decide +kernel⟩
theorem LL_236 : gLv RL 236 yX11_setHours cX11_setHours 3 (some .int) 2 := ⟨gT8 216 rfl rfl, gT8 213 rfl rfl, gT8 214 rfl rfl, gT8 215 rfl rfl, gT1 12 rfl rfl, by decide, by decide, by decide +kernel⟩
theorem LL_239 : gLv RL 239 yX11_set cX11_set 4 (some .int) 2 := ⟨gT8 220 rfl rfl, gT8 217 rfl rfl, gT8 218 rfl rfl, gT8 219 rfl rfl, gT1 12 rfl rfl, by decide, by decide, by decide +kernel⟩
theorem LL_243 : gLv RL 243 yX11_refresh cX11_refresh 1 (some .int) 0 := ⟨gT8 224 rfl rfl, gT8 221 rfl rfl, gT8 222 rfl rfl, gT8 223 rfl rfl, gT1 12 rfl rfl, by decide, by decide, by decide +kernel⟩
theorem LL_247 : gLv RL 247 yX11_writeOrder cX11_writeOrder 2 (some .int) 0 := ⟨gT8 228 rfl rfl, gT8 225 rfl rfl, gT8 226 rfl rfl, gT8 227 rfl rfl, gT1 12 rfl rfl, by decide, by decide, by decide +kernel⟩
theorem LX11_454 : gLv RX11 454 yX11_tells cX11_tells 2 none 1 := ⟨gT8 232 rfl rfl, gT8 229 rfl rfl, gT8 231 rfl rfl, gBW_s 116 rfl rfl, gT1 12 rfl rfl, by decide, by decide, by decide +kernel⟩
theorem LX11_460 : gLv RX11 460 yX11_tellsGroup cX11_tellsGroup 5 none 1 := ⟨gT8 236 rfl rfl, gT8 233 rfl rfl, gT8 235 rfl rfl, gBW_s 117 rfl rfl, gT1 12 rfl rfl, by decide, by decide, by decide +kernel⟩
theorem LX11_457 : gLv RX11 457 yX11_tellsName cX11_tellsName 3 none 1 := ⟨gT9 0 rfl rfl, gT8 237 rfl rfl, gT8 239 rfl rfl, gBW_s 118 rfl rfl, gT1 12 rfl rfl, by decide, by decide, by decide +kernel⟩
theorem LL_250 : gLv RL 250 yX11_writeArrows cX11_writeArrows 3 (some .int) 1 := ⟨gT9 4 rfl rfl, gT9 1 rfl rfl, gT9 2 rfl rfl, gT9 3 rfl rfl, gT1 12 rfl rfl, by decide, by decide, by decide +kernel⟩
theorem LL_254 : gLv RL 254 yX11_outputByte cX11_outputByte 2 (some .int) 1 := ⟨gT9 8 rfl rfl, gT9 5 rfl rfl, gT9 6 rfl rfl, gT9 7 rfl rfl, gT1 12 rfl rfl, by decide, by decide, by decide +kernel⟩
theorem LL_258 : gLv RL 258 yX11_undo cX11_undo 2 (some .int) 0 := ⟨gT9 12 rfl rfl, gT9 9 rfl rfl, gT9 10 rfl rfl, gT9 11 rfl rfl, gT1 12 rfl rfl, by decide, by decide, by decide +kernel⟩
theorem LL_262 : gLv RL 262 yX11_save cX11_save 2 (some .int) 0 := ⟨gT9 16 rfl rfl, gT9 13 rfl rfl, gT9 14 rfl rfl, gT9 15 rfl rfl, gT1 12 rfl rfl, by decide, by decide, by decide +kernel⟩
theorem LL_265 : gLv RL 265 yX11_restore cX11_restore 2 (some .int) 0 := ⟨gT9 20 rfl rfl, gT9 17 rfl rfl, gT9 18 rfl rfl, gT9 19 rfl rfl, gT1 12 rfl rfl, by decide, by decide, by decide +kernel⟩
theorem LX8_79 : gLn RX8 79 yX10_has "RingFreeOrder" cX10_has 2 (some .boolean) 2 := ⟨gT2 176 rfl rfl, by decide, gT2 175 rfl rfl, gT1 1 rfl rfl, by decide, by decide, by decide +kernel⟩
theorem LX2_71 : gLn RX2 71 yX10_has "RingFreeOrder" cX10_has 2 (some .boolean) 2 := ⟨gT2 176 rfl rfl, by decide, gT2 175 rfl rfl, gT1 1 rfl rfl, by decide, by decide, by decide +kernel⟩
theorem LX4_38 : gLn RX4 38 yX10_has "RingFreeOrder" cX10_has 2 (some .boolean) 2 := ⟨gT2 176 rfl rfl, by decide, gT2 175 rfl rfl, gT1 1 rfl rfl, by decide, by decide, by decide +kernel⟩
theorem LX4_42 : gLn RX4 42 yX10_headOf "RingFreeOrder" cX10_headOf 1 (some .int) 1 := ⟨gT2 212 rfl rfl, by decide, gT2 211 rfl rfl, gT1 1 rfl rfl, by decide, by decide, by decide +kernel⟩
theorem LX4_19 : gLn RX4 19 yX10_letterOf "RingFreeOrder" cX10_letterOf 3 (some .int) 2 := ⟨gT3 86 rfl rfl, by decide, gT3 85 rfl rfl, gT1 1 rfl rfl, by decide, by decide, by decide +kernel⟩
theorem LX6_53 : gLn RX6 53 yX10_has "RingFreeOrder" cX10_has 2 (some .boolean) 2 := ⟨gT2 176 rfl rfl, by decide, gT2 175 rfl rfl, gT1 1 rfl rfl, by decide, by decide, by decide +kernel⟩
theorem LX9_30 : gLn RX9 30 yX10_has "RingFreeOrder" cX10_has 2 (some .boolean) 2 := ⟨gT2 176 rfl rfl, by decide, gT2 175 rfl rfl, gT1 1 rfl rfl, by decide, by decide, by decide +kernel⟩
theorem KJ6_264 : Cond.constant RJ6 264 65536 ∈ gBW := gT2 216 rfl rfl
theorem KJ6_265 : Cond.constant RJ6 265 1431655765 ∈ gBW := gT3 74 rfl rfl
theorem KJ6_266 : Cond.constant RJ6 266 858993459 ∈ gBW := gT3 75 rfl rfl
theorem KJ6_267 : Cond.constant RJ6 267 252645135 ∈ gBW := gT3 76 rfl rfl
theorem KX10_90 : Cond.constantLong RX10 90 97 ∈ gBW := gT2 87 rfl rfl
theorem SX10_101 : (RX10, 101, "the input buffer would exceed 900 bytes", 23) ∈ gStr := by decide
theorem SX10_112 : (RX10, 112, "no such length", 11) ∈ gStr := by decide
theorem SX1_48 : (RX1, 48, "task", 0) ∈ gStr := by decide
theorem SX1_69 : (RX1, 69, "arrow", 1) ∈ gStr := by decide
theorem SX1_74 : (RX1, 74, "mode", 2) ∈ gStr := by decide
theorem SX1_79 : (RX1, 79, "join", 3) ∈ gStr := by decide
theorem SX10_119 : (RX10, 119, "the description has an error", 22) ∈ gStr := by decide
theorem SX3_66 : (RX3, 66, "arrow", 1) ∈ gStr := by decide
theorem SX3_72 : (RX3, 72, "cut", 4) ∈ gStr := by decide
theorem SX3_74 : (RX3, 74, "hours", 5) ∈ gStr := by decide
theorem SX3_76 : (RX3, 76, "swap", 6) ∈ gStr := by decide
theorem SX3_78 : (RX3, 78, "mode", 2) ∈ gStr := by decide
theorem SX3_80 : (RX3, 80, "join", 3) ∈ gStr := by decide
theorem SX3_82 : (RX3, 82, "refresh", 7) ∈ gStr := by decide
theorem SX10_131 : (RX10, 131, "the orders have an error", 24) ∈ gStr := by decide
theorem SX10_168 : (RX10, 168, "no such number", 12) ∈ gStr := by decide
theorem SX10_389 : (RX10, 389, "no such task", 19) ∈ gStr := by decide
theorem SX10_212 : (RX10, 212, "no such number of a task", 14) ∈ gStr := by decide
theorem SX10_394 : (RX10, 394, "no such place", 18) ∈ gStr := by decide
theorem SX10_222 : (RX10, 222, "no such number of a group", 13) ∈ gStr := by decide
theorem SX10_392 : (RX10, 392, "no such arrow", 10) ∈ gStr := by decide
theorem SX10_253 : (RX10, 253, "no such number of an arrow", 16) ∈ gStr := by decide
theorem SX10_273 : (RX10, 273, "no such number of a trial", 15) ∈ gStr := by decide
theorem SX10_297 : (RX10, 297, "the depth is negative", 21) ∈ gStr := by decide
theorem SX10_337 : (RX10, 337, "no such account", 9) ∈ gStr := by decide
theorem SX10_396 : (RX10, 396, "hours are out of range", 8) ∈ gStr := by decide
theorem SX10_365 : (RX10, 365, "no such number or value", 17) ∈ gStr := by decide
theorem SX10_385 : (RX10, 385, "nothing was saved", 20) ∈ gStr := by decide
theorem SX11_288 : (RX11, 288, "task", 0) ∈ gStr := by decide
theorem SX11_297 : (RX11, 297, "arrow", 1) ∈ gStr := by decide
theorem SX11_302 : (RX11, 302, "mode", 2) ∈ gStr := by decide
theorem SX11_307 : (RX11, 307, "join", 3) ∈ gStr := by decide
theorem SX11_327 : (RX11, 327, "cut", 4) ∈ gStr := by decide
theorem SX11_329 : (RX11, 329, "hours", 5) ∈ gStr := by decide
theorem SX11_331 : (RX11, 331, "swap", 6) ∈ gStr := by decide
theorem SX11_333 : (RX11, 333, "refresh", 7) ∈ gStr := by decide
theorem Zmax_s : Cond.static Lib.Math.max.name ∈ gBW := gT2 196 rfl rfl
theorem Zmax_c : Cond.code Lib.Math.max.name Lib.Math.max.code 2 (some .int) ∈ gBW := gT2 197 rfl rfl
theorem ZmaxX0_50 : Cond.methodLink RX0 50 Lib.Math.max.name ∈ gBW := gT2 195 rfl rfl
theorem ZmaxX2_89 : Cond.methodLink RX2 89 Lib.Math.max.name ∈ gBW := gT5 33 rfl rfl
theorem ZmaxX10_299 : Cond.methodLink RX10 299 Lib.Math.max.name ∈ gBW := gT5 188 rfl rfl
theorem ZmaxX11_377 : Cond.methodLink RX11 377 Lib.Math.max.name ∈ gBW := gT8 20 rfl rfl
theorem Zmin_s : Cond.static Lib.Math.min.name ∈ gBW := gT5 197 rfl rfl
theorem Zmin_c : Cond.code Lib.Math.min.name Lib.Math.min.code 2 (some .int) ∈ gBW := gT5 198 rfl rfl
theorem ZminX10_304 : Cond.methodLink RX10 304 Lib.Math.min.name ∈ gBW := gT5 196 rfl rfl
theorem ZminX11_161 : Cond.methodLink RX11 161 Lib.Math.min.name ∈ gBW := gT7 109 rfl rfl
theorem Zm_i : Cond.initialized "java/lang/Math" ∈ gBW := gT1 25 rfl rfl
theorem U_0 : gTw RX10 99 103 "java/lang/IllegalStateException" := ⟨by decide, by decide, gT3 107 rfl rfl, gT1 16 rfl rfl, fun w h => gBW_of (List.mem_append_right _ ((show ∀ w ∈ (vx_atS RX10 103 "java/lang/IllegalStateException" ["java/lang/RuntimeException", "java/lang/Exception"]).filter goodWord, w ∈ tables_1 by decide +kernel) w h)) (List.mem_filter.mp h).2, by decide +kernel, by decide +kernel⟩
theorem U_1 : gTw RX10 110 114 "java/lang/IllegalArgumentException" := ⟨by decide, by decide, gT3 186 rfl rfl, gT1 17 rfl rfl, fun w h => gBW_of (List.mem_append_right _ ((show ∀ w ∈ (vx_atS RX10 114 "java/lang/IllegalArgumentException" ["java/lang/RuntimeException", "java/lang/Exception"]).filter goodWord, w ∈ tables_1 by decide +kernel) w h)) (List.mem_filter.mp h).2, by decide +kernel, by decide +kernel⟩
theorem U_2 : gTw RX10 387 391 "java/lang/IndexOutOfBoundsException" := ⟨by decide, by decide, gT5 51 rfl rfl, gT1 26 rfl rfl, fun w h => gBW_of (List.mem_append_right _ ((show ∀ w ∈ (vx_atS RX10 391 "java/lang/IndexOutOfBoundsException" ["java/lang/RuntimeException", "java/lang/Exception"]).filter goodWord, w ∈ tables_1 by decide +kernel) w h)) (List.mem_filter.mp h).2, by decide +kernel, by decide +kernel⟩
theorem YL_13 : Cond.classLink RL 13 "java/lang/IllegalStateException" ∈ gBW := gT3 102 rfl rfl
theorem YL_19 : Cond.classLink RL 19 "java/lang/IllegalArgumentException" ∈ gBW := gT3 181 rfl rfl
theorem YL_35 : Cond.classLink RL 35 "java/lang/IndexOutOfBoundsException" ∈ gBW := gT5 42 rfl rfl
def gEx (e : Nat) : String := match e with | 0 => "java/lang/IllegalStateException" | 1 => "java/lang/IllegalArgumentException" | _ => "java/lang/IndexOutOfBoundsException"
