def Z0 : List Sh := [.inr (.inr (10, [some (some 1), some (some 3), some (some 10), some (some 17), some (some 21), some (some 143), some (some 154), some (some 156), some (some 158), some (some 160), some (some 163), none])),
  .inr (.inr (6, [some (some 2), none, none, none, none])),
  .inl (0, 240),
  .inr (.inr (5, [some (some 4), some (some 5), some (some 6), some (some 7), some (some 8), some (some 9), none, none, none, none, none])),
  .inl (0, 7),
  .inl (0, 7),
  .inl (0, 24),
  .inl (0, 6),
  .inl (0, 5),
  .inl (0, 5),
  .inr (.inr (5, [some (some 11), some (some 12), some (some 13), some (some 14), some (some 15), some (some 16), none, none, none, none, none])),
  .inl (0, 7),
  .inl (0, 7),
  .inl (0, 24),
  .inl (0, 6),
  .inl (0, 5),
  .inl (0, 5),
  .inr (.inr (2, [some (some 18), some (some 19), some (some 20), none, none, none, none])),
  .inl (0, 7),
  .inl (0, 7),
  .inl (0, 7),
  .inr (.inr (4, [some (some 22), none, none])),
  .inr (.inl (3, [some 23, some 27, some 31, some 35, some 39, some 43, some 47, some 51, some 55, some 59, some 63, some 67, some 71, some 75, some 79, some 83, some 87, some 91, some 95, some 99, some 103, some 107, some 111, some 115, some 119, some 123, some 127, some 131, some 135, some 139])),
  .inr (.inr (2, [some (some 24), some (some 25), some (some 26), none, none, none, none])),
  .inl (0, 7),
  .inl (0, 7),
  .inl (0, 7),
  .inr (.inr (2, [some (some 28), some (some 29), some (some 30), none, none, none, none])),
  .inl (0, 7),
  .inl (0, 7),
  .inl (0, 7),
  .inr (.inr (2, [some (some 32), some (some 33), some (some 34), none, none, none, none])),
  .inl (0, 7),
  .inl (0, 7),
  .inl (0, 7),
  .inr (.inr (2, [some (some 36), some (some 37), some (some 38), none, none, none, none])),
  .inl (0, 7),
  .inl (0, 7),
  .inl (0, 7),
  .inr (.inr (2, [some (some 40), some (some 41), some (some 42), none, none, none, none])),
  .inl (0, 7),
  .inl (0, 7),
  .inl (0, 7),
  .inr (.inr (2, [some (some 44), some (some 45), some (some 46), none, none, none, none])),
  .inl (0, 7),
  .inl (0, 7),
  .inl (0, 7),
  .inr (.inr (2, [some (some 48), some (some 49), some (some 50), none, none, none, none])),
  .inl (0, 7),
  .inl (0, 7),
  .inl (0, 7),
  .inr (.inr (2, [some (some 52), some (some 53), some (some 54), none, none, none, none])),
  .inl (0, 7),
  .inl (0, 7),
  .inl (0, 7),
  .inr (.inr (2, [some (some 56), some (some 57), some (some 58), none, none, none, none])),
  .inl (0, 7),
  .inl (0, 7),
  .inl (0, 7),
  .inr (.inr (2, [some (some 60), some (some 61), some (some 62), none, none, none, none])),
  .inl (0, 7),
  .inl (0, 7),
  .inl (0, 7),
  .inr (.inr (2, [some (some 64), some (some 65), some (some 66), none, none, none, none])),
  .inl (0, 7),
  .inl (0, 7),
  .inl (0, 7),
  .inr (.inr (2, [some (some 68), some (some 69), some (some 70), none, none, none, none])),
  .inl (0, 7),
  .inl (0, 7),
  .inl (0, 7),
  .inr (.inr (2, [some (some 72), some (some 73), some (some 74), none, none, none, none])),
  .inl (0, 7),
  .inl (0, 7),
  .inl (0, 7),
  .inr (.inr (2, [some (some 76), some (some 77), some (some 78), none, none, none, none])),
  .inl (0, 7),
  .inl (0, 7),
  .inl (0, 7),
  .inr (.inr (2, [some (some 80), some (some 81), some (some 82), none, none, none, none])),
  .inl (0, 7),
  .inl (0, 7),
  .inl (0, 7),
  .inr (.inr (2, [some (some 84), some (some 85), some (some 86), none, none, none, none])),
  .inl (0, 7),
  .inl (0, 7),
  .inl (0, 7),
  .inr (.inr (2, [some (some 88), some (some 89), some (some 90), none, none, none, none])),
  .inl (0, 7),
  .inl (0, 7),
  .inl (0, 7),
  .inr (.inr (2, [some (some 92), some (some 93), some (some 94), none, none, none, none])),
  .inl (0, 7),
  .inl (0, 7),
  .inl (0, 7),
  .inr (.inr (2, [some (some 96), some (some 97), some (some 98), none, none, none, none])),
  .inl (0, 7),
  .inl (0, 7),
  .inl (0, 7),
  .inr (.inr (2, [some (some 100), some (some 101), some (some 102), none, none, none, none])),
  .inl (0, 7),
  .inl (0, 7),
  .inl (0, 7),
  .inr (.inr (2, [some (some 104), some (some 105), some (some 106), none, none, none, none])),
  .inl (0, 7),
  .inl (0, 7),
  .inl (0, 7),
  .inr (.inr (2, [some (some 108), some (some 109), some (some 110), none, none, none, none])),
  .inl (0, 7),
  .inl (0, 7),
  .inl (0, 7),
  .inr (.inr (2, [some (some 112), some (some 113), some (some 114), none, none, none, none])),
  .inl (0, 7),
  .inl (0, 7),
  .inl (0, 7),
  .inr (.inr (2, [some (some 116), some (some 117), some (some 118), none, none, none, none])),
  .inl (0, 7),
  .inl (0, 7),
  .inl (0, 7),
  .inr (.inr (2, [some (some 120), some (some 121), some (some 122), none, none, none, none])),
  .inl (0, 7),
  .inl (0, 7),
  .inl (0, 7),
  .inr (.inr (2, [some (some 124), some (some 125), some (some 126), none, none, none, none])),
  .inl (0, 7),
  .inl (0, 7),
  .inl (0, 7),
  .inr (.inr (2, [some (some 128), some (some 129), some (some 130), none, none, none, none])),
  .inl (0, 7),
  .inl (0, 7),
  .inl (0, 7),
  .inr (.inr (2, [some (some 132), some (some 133), some (some 134), none, none, none, none])),
  .inl (0, 7),
  .inl (0, 7),
  .inl (0, 7),
  .inr (.inr (2, [some (some 136), some (some 137), some (some 138), none, none, none, none])),
  .inl (0, 7),
  .inl (0, 7),
  .inl (0, 7),
  .inr (.inr (2, [some (some 140), some (some 141), some (some 142), none, none, none, none])),
  .inl (0, 7),
  .inl (0, 7),
  .inl (0, 7),
  .inr (.inl (4, [some 144, some 149])),
  .inr (.inr (1, [some (some 145), none, none])),
  .inr (.inr (2, [some (some 146), some (some 147), some (some 148), none, none, none, none])),
  .inl (0, 7),
  .inl (0, 7),
  .inl (0, 7),
  .inr (.inr (1, [some (some 150), none, none])),
  .inr (.inr (2, [some (some 151), some (some 152), some (some 153), none, none, none, none])),
  .inl (0, 7),
  .inl (0, 7),
  .inl (0, 7),
  .inr (.inr (9, [some (some 155), none])),
  .inl (0, 8),
  .inr (.inr (7, [some (some 157)])),
  .inl (0, 8),
  .inr (.inr (8, [some (some 159)])),
  .inl (0, 8),
  .inr (.inr (3, [some (some 161), some (some 162), none])),
  .inl (0, 6),
  .inl (1, 6),
  .inr (.inr (0, [some (some 164), some (some 165), none])),
  .inl (0, 20),
  .inl (0, 20),
  .inr (.inr (11, [some (some 167), none, some (some 168), some (some 169), some (some 170), some (some 171), none, some (some 172), some (some 173), none, some (some 174), none, some (some 175), none, none, none, none, some (some 176), some (some 177), some (some 178), none, some (some 179), some (some 180), some (some 181), some (some 182)])),
  .inl (0, 240),
  .inl (0, 53),
  .inl (0, 53),
  .inl (0, 25),
  .inl (0, 750),
  .inl (0, 52),
  .inl (1, 2),
  .inl (0, 18),
  .inl (0, 40),
  .inl (0, 8),
  .inl (0, 7),
  .inl (2, 315),
  .inl (0, 7),
  .inl (0, 7),
  .inl (0, 7),
  .inl (0, 64)]
theorem z0 : Z0[0]? = some (.inr (.inr (10, [some (some 1), some (some 3), some (some 10), some (some 17), some (some 21), some (some 143), some (some 154), some (some 156), some (some 158), some (some 160), some (some 163), none]))) := rfl
theorem z1 : Z0[1]? = some (.inr (.inr (6, [some (some 2), none, none, none, none]))) := rfl
theorem z2 : Z0[2]? = some (.inl (0, 240)) := rfl
theorem z3 : Z0[3]? = some (.inr (.inr (5, [some (some 4), some (some 5), some (some 6), some (some 7), some (some 8), some (some 9), none, none, none, none, none]))) := rfl
theorem z4 : Z0[4]? = some (.inl (0, 7)) := rfl
theorem z5 : Z0[5]? = some (.inl (0, 7)) := rfl
theorem z6 : Z0[6]? = some (.inl (0, 24)) := rfl
theorem z7 : Z0[7]? = some (.inl (0, 6)) := rfl
theorem z8 : Z0[8]? = some (.inl (0, 5)) := rfl
theorem z9 : Z0[9]? = some (.inl (0, 5)) := rfl
theorem z10 : Z0[10]? = some (.inr (.inr (5, [some (some 11), some (some 12), some (some 13), some (some 14), some (some 15), some (some 16), none, none, none, none, none]))) := rfl
theorem z11 : Z0[11]? = some (.inl (0, 7)) := rfl
theorem z12 : Z0[12]? = some (.inl (0, 7)) := rfl
theorem z13 : Z0[13]? = some (.inl (0, 24)) := rfl
theorem z14 : Z0[14]? = some (.inl (0, 6)) := rfl
theorem z15 : Z0[15]? = some (.inl (0, 5)) := rfl
theorem z16 : Z0[16]? = some (.inl (0, 5)) := rfl
theorem z17 : Z0[17]? = some (.inr (.inr (2, [some (some 18), some (some 19), some (some 20), none, none, none, none]))) := rfl
theorem z18 : Z0[18]? = some (.inl (0, 7)) := rfl
theorem z19 : Z0[19]? = some (.inl (0, 7)) := rfl
theorem z20 : Z0[20]? = some (.inl (0, 7)) := rfl
theorem z21 : Z0[21]? = some (.inr (.inr (4, [some (some 22), none, none]))) := rfl
theorem z22 : Z0[22]? = some (.inr (.inl (3, [some 23, some 27, some 31, some 35, some 39, some 43, some 47, some 51, some 55, some 59, some 63, some 67, some 71, some 75, some 79, some 83, some 87, some 91, some 95, some 99, some 103, some 107, some 111, some 115, some 119, some 123, some 127, some 131, some 135, some 139]))) := rfl
theorem z23 : Z0[23]? = some (.inr (.inr (2, [some (some 24), some (some 25), some (some 26), none, none, none, none]))) := rfl
theorem z24 : Z0[24]? = some (.inl (0, 7)) := rfl
theorem z25 : Z0[25]? = some (.inl (0, 7)) := rfl
theorem z26 : Z0[26]? = some (.inl (0, 7)) := rfl
theorem z27 : Z0[27]? = some (.inr (.inr (2, [some (some 28), some (some 29), some (some 30), none, none, none, none]))) := rfl
theorem z28 : Z0[28]? = some (.inl (0, 7)) := rfl
theorem z29 : Z0[29]? = some (.inl (0, 7)) := rfl
theorem z30 : Z0[30]? = some (.inl (0, 7)) := rfl
theorem z31 : Z0[31]? = some (.inr (.inr (2, [some (some 32), some (some 33), some (some 34), none, none, none, none]))) := rfl
theorem z32 : Z0[32]? = some (.inl (0, 7)) := rfl
theorem z33 : Z0[33]? = some (.inl (0, 7)) := rfl
theorem z34 : Z0[34]? = some (.inl (0, 7)) := rfl
theorem z35 : Z0[35]? = some (.inr (.inr (2, [some (some 36), some (some 37), some (some 38), none, none, none, none]))) := rfl
theorem z36 : Z0[36]? = some (.inl (0, 7)) := rfl
theorem z37 : Z0[37]? = some (.inl (0, 7)) := rfl
theorem z38 : Z0[38]? = some (.inl (0, 7)) := rfl
theorem z39 : Z0[39]? = some (.inr (.inr (2, [some (some 40), some (some 41), some (some 42), none, none, none, none]))) := rfl
theorem z40 : Z0[40]? = some (.inl (0, 7)) := rfl
theorem z41 : Z0[41]? = some (.inl (0, 7)) := rfl
theorem z42 : Z0[42]? = some (.inl (0, 7)) := rfl
theorem z43 : Z0[43]? = some (.inr (.inr (2, [some (some 44), some (some 45), some (some 46), none, none, none, none]))) := rfl
theorem z44 : Z0[44]? = some (.inl (0, 7)) := rfl
theorem z45 : Z0[45]? = some (.inl (0, 7)) := rfl
theorem z46 : Z0[46]? = some (.inl (0, 7)) := rfl
theorem z47 : Z0[47]? = some (.inr (.inr (2, [some (some 48), some (some 49), some (some 50), none, none, none, none]))) := rfl
theorem z48 : Z0[48]? = some (.inl (0, 7)) := rfl
theorem z49 : Z0[49]? = some (.inl (0, 7)) := rfl
theorem z50 : Z0[50]? = some (.inl (0, 7)) := rfl
theorem z51 : Z0[51]? = some (.inr (.inr (2, [some (some 52), some (some 53), some (some 54), none, none, none, none]))) := rfl
theorem z52 : Z0[52]? = some (.inl (0, 7)) := rfl
theorem z53 : Z0[53]? = some (.inl (0, 7)) := rfl
theorem z54 : Z0[54]? = some (.inl (0, 7)) := rfl
theorem z55 : Z0[55]? = some (.inr (.inr (2, [some (some 56), some (some 57), some (some 58), none, none, none, none]))) := rfl
theorem z56 : Z0[56]? = some (.inl (0, 7)) := rfl
theorem z57 : Z0[57]? = some (.inl (0, 7)) := rfl
theorem z58 : Z0[58]? = some (.inl (0, 7)) := rfl
theorem z59 : Z0[59]? = some (.inr (.inr (2, [some (some 60), some (some 61), some (some 62), none, none, none, none]))) := rfl
theorem z60 : Z0[60]? = some (.inl (0, 7)) := rfl
theorem z61 : Z0[61]? = some (.inl (0, 7)) := rfl
theorem z62 : Z0[62]? = some (.inl (0, 7)) := rfl
theorem z63 : Z0[63]? = some (.inr (.inr (2, [some (some 64), some (some 65), some (some 66), none, none, none, none]))) := rfl
theorem z64 : Z0[64]? = some (.inl (0, 7)) := rfl
theorem z65 : Z0[65]? = some (.inl (0, 7)) := rfl
theorem z66 : Z0[66]? = some (.inl (0, 7)) := rfl
theorem z67 : Z0[67]? = some (.inr (.inr (2, [some (some 68), some (some 69), some (some 70), none, none, none, none]))) := rfl
theorem z68 : Z0[68]? = some (.inl (0, 7)) := rfl
theorem z69 : Z0[69]? = some (.inl (0, 7)) := rfl
theorem z70 : Z0[70]? = some (.inl (0, 7)) := rfl
theorem z71 : Z0[71]? = some (.inr (.inr (2, [some (some 72), some (some 73), some (some 74), none, none, none, none]))) := rfl
theorem z72 : Z0[72]? = some (.inl (0, 7)) := rfl
theorem z73 : Z0[73]? = some (.inl (0, 7)) := rfl
theorem z74 : Z0[74]? = some (.inl (0, 7)) := rfl
theorem z75 : Z0[75]? = some (.inr (.inr (2, [some (some 76), some (some 77), some (some 78), none, none, none, none]))) := rfl
theorem z76 : Z0[76]? = some (.inl (0, 7)) := rfl
theorem z77 : Z0[77]? = some (.inl (0, 7)) := rfl
theorem z78 : Z0[78]? = some (.inl (0, 7)) := rfl
theorem z79 : Z0[79]? = some (.inr (.inr (2, [some (some 80), some (some 81), some (some 82), none, none, none, none]))) := rfl
theorem z80 : Z0[80]? = some (.inl (0, 7)) := rfl
theorem z81 : Z0[81]? = some (.inl (0, 7)) := rfl
theorem z82 : Z0[82]? = some (.inl (0, 7)) := rfl
theorem z83 : Z0[83]? = some (.inr (.inr (2, [some (some 84), some (some 85), some (some 86), none, none, none, none]))) := rfl
theorem z84 : Z0[84]? = some (.inl (0, 7)) := rfl
theorem z85 : Z0[85]? = some (.inl (0, 7)) := rfl
theorem z86 : Z0[86]? = some (.inl (0, 7)) := rfl
theorem z87 : Z0[87]? = some (.inr (.inr (2, [some (some 88), some (some 89), some (some 90), none, none, none, none]))) := rfl
theorem z88 : Z0[88]? = some (.inl (0, 7)) := rfl
theorem z89 : Z0[89]? = some (.inl (0, 7)) := rfl
theorem z90 : Z0[90]? = some (.inl (0, 7)) := rfl
theorem z91 : Z0[91]? = some (.inr (.inr (2, [some (some 92), some (some 93), some (some 94), none, none, none, none]))) := rfl
theorem z92 : Z0[92]? = some (.inl (0, 7)) := rfl
theorem z93 : Z0[93]? = some (.inl (0, 7)) := rfl
theorem z94 : Z0[94]? = some (.inl (0, 7)) := rfl
theorem z95 : Z0[95]? = some (.inr (.inr (2, [some (some 96), some (some 97), some (some 98), none, none, none, none]))) := rfl
theorem z96 : Z0[96]? = some (.inl (0, 7)) := rfl
theorem z97 : Z0[97]? = some (.inl (0, 7)) := rfl
theorem z98 : Z0[98]? = some (.inl (0, 7)) := rfl
theorem z99 : Z0[99]? = some (.inr (.inr (2, [some (some 100), some (some 101), some (some 102), none, none, none, none]))) := rfl
theorem z100 : Z0[100]? = some (.inl (0, 7)) := rfl
theorem z101 : Z0[101]? = some (.inl (0, 7)) := rfl
theorem z102 : Z0[102]? = some (.inl (0, 7)) := rfl
theorem z103 : Z0[103]? = some (.inr (.inr (2, [some (some 104), some (some 105), some (some 106), none, none, none, none]))) := rfl
theorem z104 : Z0[104]? = some (.inl (0, 7)) := rfl
theorem z105 : Z0[105]? = some (.inl (0, 7)) := rfl
theorem z106 : Z0[106]? = some (.inl (0, 7)) := rfl
theorem z107 : Z0[107]? = some (.inr (.inr (2, [some (some 108), some (some 109), some (some 110), none, none, none, none]))) := rfl
theorem z108 : Z0[108]? = some (.inl (0, 7)) := rfl
theorem z109 : Z0[109]? = some (.inl (0, 7)) := rfl
theorem z110 : Z0[110]? = some (.inl (0, 7)) := rfl
theorem z111 : Z0[111]? = some (.inr (.inr (2, [some (some 112), some (some 113), some (some 114), none, none, none, none]))) := rfl
theorem z112 : Z0[112]? = some (.inl (0, 7)) := rfl
theorem z113 : Z0[113]? = some (.inl (0, 7)) := rfl
theorem z114 : Z0[114]? = some (.inl (0, 7)) := rfl
theorem z115 : Z0[115]? = some (.inr (.inr (2, [some (some 116), some (some 117), some (some 118), none, none, none, none]))) := rfl
theorem z116 : Z0[116]? = some (.inl (0, 7)) := rfl
theorem z117 : Z0[117]? = some (.inl (0, 7)) := rfl
theorem z118 : Z0[118]? = some (.inl (0, 7)) := rfl
theorem z119 : Z0[119]? = some (.inr (.inr (2, [some (some 120), some (some 121), some (some 122), none, none, none, none]))) := rfl
theorem z120 : Z0[120]? = some (.inl (0, 7)) := rfl
theorem z121 : Z0[121]? = some (.inl (0, 7)) := rfl
theorem z122 : Z0[122]? = some (.inl (0, 7)) := rfl
theorem z123 : Z0[123]? = some (.inr (.inr (2, [some (some 124), some (some 125), some (some 126), none, none, none, none]))) := rfl
theorem z124 : Z0[124]? = some (.inl (0, 7)) := rfl
theorem z125 : Z0[125]? = some (.inl (0, 7)) := rfl
theorem z126 : Z0[126]? = some (.inl (0, 7)) := rfl
theorem z127 : Z0[127]? = some (.inr (.inr (2, [some (some 128), some (some 129), some (some 130), none, none, none, none]))) := rfl
theorem z128 : Z0[128]? = some (.inl (0, 7)) := rfl
theorem z129 : Z0[129]? = some (.inl (0, 7)) := rfl
theorem z130 : Z0[130]? = some (.inl (0, 7)) := rfl
theorem z131 : Z0[131]? = some (.inr (.inr (2, [some (some 132), some (some 133), some (some 134), none, none, none, none]))) := rfl
theorem z132 : Z0[132]? = some (.inl (0, 7)) := rfl
theorem z133 : Z0[133]? = some (.inl (0, 7)) := rfl
theorem z134 : Z0[134]? = some (.inl (0, 7)) := rfl
theorem z135 : Z0[135]? = some (.inr (.inr (2, [some (some 136), some (some 137), some (some 138), none, none, none, none]))) := rfl
theorem z136 : Z0[136]? = some (.inl (0, 7)) := rfl
theorem z137 : Z0[137]? = some (.inl (0, 7)) := rfl
theorem z138 : Z0[138]? = some (.inl (0, 7)) := rfl
theorem z139 : Z0[139]? = some (.inr (.inr (2, [some (some 140), some (some 141), some (some 142), none, none, none, none]))) := rfl
theorem z140 : Z0[140]? = some (.inl (0, 7)) := rfl
theorem z141 : Z0[141]? = some (.inl (0, 7)) := rfl
theorem z142 : Z0[142]? = some (.inl (0, 7)) := rfl
theorem z143 : Z0[143]? = some (.inr (.inl (4, [some 144, some 149]))) := rfl
theorem z144 : Z0[144]? = some (.inr (.inr (1, [some (some 145), none, none]))) := rfl
theorem z145 : Z0[145]? = some (.inr (.inr (2, [some (some 146), some (some 147), some (some 148), none, none, none, none]))) := rfl
theorem z146 : Z0[146]? = some (.inl (0, 7)) := rfl
theorem z147 : Z0[147]? = some (.inl (0, 7)) := rfl
theorem z148 : Z0[148]? = some (.inl (0, 7)) := rfl
theorem z149 : Z0[149]? = some (.inr (.inr (1, [some (some 150), none, none]))) := rfl
theorem z150 : Z0[150]? = some (.inr (.inr (2, [some (some 151), some (some 152), some (some 153), none, none, none, none]))) := rfl
theorem z151 : Z0[151]? = some (.inl (0, 7)) := rfl
theorem z152 : Z0[152]? = some (.inl (0, 7)) := rfl
theorem z153 : Z0[153]? = some (.inl (0, 7)) := rfl
theorem z154 : Z0[154]? = some (.inr (.inr (9, [some (some 155), none]))) := rfl
theorem z155 : Z0[155]? = some (.inl (0, 8)) := rfl
theorem z156 : Z0[156]? = some (.inr (.inr (7, [some (some 157)]))) := rfl
theorem z157 : Z0[157]? = some (.inl (0, 8)) := rfl
theorem z158 : Z0[158]? = some (.inr (.inr (8, [some (some 159)]))) := rfl
theorem z159 : Z0[159]? = some (.inl (0, 8)) := rfl
theorem z160 : Z0[160]? = some (.inr (.inr (3, [some (some 161), some (some 162), none]))) := rfl
theorem z161 : Z0[161]? = some (.inl (0, 6)) := rfl
theorem z162 : Z0[162]? = some (.inl (1, 6)) := rfl
theorem z163 : Z0[163]? = some (.inr (.inr (0, [some (some 164), some (some 165), none]))) := rfl
theorem z164 : Z0[164]? = some (.inl (0, 20)) := rfl
theorem z165 : Z0[165]? = some (.inl (0, 20)) := rfl
theorem z166 : Z0[166]? = some (.inr (.inr (11, [some (some 167), none, some (some 168), some (some 169), some (some 170), some (some 171), none, some (some 172), some (some 173), none, some (some 174), none, some (some 175), none, none, none, none, some (some 176), some (some 177), some (some 178), none, some (some 179), some (some 180), some (some 181), some (some 182)]))) := rfl
theorem z167 : Z0[167]? = some (.inl (0, 240)) := rfl
theorem z168 : Z0[168]? = some (.inl (0, 53)) := rfl
theorem z169 : Z0[169]? = some (.inl (0, 53)) := rfl
theorem z170 : Z0[170]? = some (.inl (0, 25)) := rfl
theorem z171 : Z0[171]? = some (.inl (0, 750)) := rfl
theorem z172 : Z0[172]? = some (.inl (0, 52)) := rfl
theorem z173 : Z0[173]? = some (.inl (1, 2)) := rfl
theorem z174 : Z0[174]? = some (.inl (0, 18)) := rfl
theorem z175 : Z0[175]? = some (.inl (0, 40)) := rfl
theorem z176 : Z0[176]? = some (.inl (0, 8)) := rfl
theorem z177 : Z0[177]? = some (.inl (0, 7)) := rfl
theorem z178 : Z0[178]? = some (.inl (2, 315)) := rfl
theorem z179 : Z0[179]? = some (.inl (0, 7)) := rfl
theorem z180 : Z0[180]? = some (.inl (0, 7)) := rfl
theorem z181 : Z0[181]? = some (.inl (0, 7)) := rfl
theorem z182 : Z0[182]? = some (.inl (0, 64)) := rfl
def isL (i o f w : Nat) : Prop := Z0[i]? = some (.inr (.inr (2, [some (some o), some (some f), some (some w), none, none, none, none]))) ∧ Z0[o]? = some (.inl (0, 7)) ∧ Z0[f]? = some (.inl (0, 7)) ∧ Z0[w]? = some (.inl (0, 7))
def isP (i a b c e f h : Nat) : Prop := Z0[i]? = some (.inr (.inr (5, [some (some a), some (some b), some (some c), some (some e), some (some f), some (some h), none, none, none, none, none]))) ∧ Z0[a]? = some (.inl (0, 7)) ∧ Z0[b]? = some (.inl (0, 7)) ∧ Z0[c]? = some (.inl (0, 24)) ∧ Z0[e]? = some (.inl (0, 6)) ∧ Z0[f]? = some (.inl (0, 5)) ∧ Z0[h]? = some (.inl (0, 5))
theorem isL17 : isL 17 18 19 20 := ⟨rfl, rfl, rfl, rfl⟩
theorem isL145 : isL 145 146 147 148 := ⟨rfl, rfl, rfl, rfl⟩
theorem isL150 : isL 150 151 152 153 := ⟨rfl, rfl, rfl, rfl⟩
theorem isP3 : isP 3 4 5 6 7 8 9 := ⟨rfl, rfl, rfl, rfl, rfl, rfl, rfl⟩
theorem isP10 : isP 10 11 12 13 14 15 16 := ⟨rfl, rfl, rfl, rfl, rfl, rfl, rfl⟩
theorem isLk : ∀ k, k < 30 → isL (23 + 4 * k) (24 + 4 * k) (25 + 4 * k) (26 + 4 * k)
  | 0, _ => ⟨rfl, rfl, rfl, rfl⟩
  | 1, _ => ⟨rfl, rfl, rfl, rfl⟩
  | 2, _ => ⟨rfl, rfl, rfl, rfl⟩
  | 3, _ => ⟨rfl, rfl, rfl, rfl⟩
  | 4, _ => ⟨rfl, rfl, rfl, rfl⟩
  | 5, _ => ⟨rfl, rfl, rfl, rfl⟩
  | 6, _ => ⟨rfl, rfl, rfl, rfl⟩
  | 7, _ => ⟨rfl, rfl, rfl, rfl⟩
  | 8, _ => ⟨rfl, rfl, rfl, rfl⟩
  | 9, _ => ⟨rfl, rfl, rfl, rfl⟩
  | 10, _ => ⟨rfl, rfl, rfl, rfl⟩
  | 11, _ => ⟨rfl, rfl, rfl, rfl⟩
  | 12, _ => ⟨rfl, rfl, rfl, rfl⟩
  | 13, _ => ⟨rfl, rfl, rfl, rfl⟩
  | 14, _ => ⟨rfl, rfl, rfl, rfl⟩
  | 15, _ => ⟨rfl, rfl, rfl, rfl⟩
  | 16, _ => ⟨rfl, rfl, rfl, rfl⟩
  | 17, _ => ⟨rfl, rfl, rfl, rfl⟩
  | 18, _ => ⟨rfl, rfl, rfl, rfl⟩
  | 19, _ => ⟨rfl, rfl, rfl, rfl⟩
  | 20, _ => ⟨rfl, rfl, rfl, rfl⟩
  | 21, _ => ⟨rfl, rfl, rfl, rfl⟩
  | 22, _ => ⟨rfl, rfl, rfl, rfl⟩
  | 23, _ => ⟨rfl, rfl, rfl, rfl⟩
  | 24, _ => ⟨rfl, rfl, rfl, rfl⟩
  | 25, _ => ⟨rfl, rfl, rfl, rfl⟩
  | 26, _ => ⟨rfl, rfl, rfl, rfl⟩
  | 27, _ => ⟨rfl, rfl, rfl, rfl⟩
  | 28, _ => ⟨rfl, rfl, rfl, rfl⟩
  | 29, _ => ⟨rfl, rfl, rfl, rfl⟩
  | k + 30, h => absurd h (by omega)
