/-! runs of contracts -/
theorem avX147_0 : avCB avRT avTT avCCt avOPt 98 147 avC147_0 [(36, ([(2, 0, [], 0), (0, 0, [(0, 1)], 0), (0, 0, [(1, 1)], 0)], [(-2147483648, 2147483647), (0, 6)], [], []), ([(1, -2)], 13))] = true := by decide +kernel
theorem avX148_0 : avCB avRT avTT avCCt avOPt 44 148 avC148_0 [] = true := by decide +kernel
theorem avX16_0 : avCB avRT avTT avCCt avOPt 32 16 avC16_0 [(3, ([(2, 0, [], 0), (0, 0, [(0, 1)], 0), (0, 0, [(1, 1)], 24)], [(-2147483648, 2147483647), (-32, 0)], [], []), ([(1, 2)], 65))] = true := by decide +kernel
theorem avX15_0 : avCB avRT avTT avCCt avOPt 32 15 avC15_0 [] = true := by decide +kernel
theorem avX152_0 : avCB avRT avTT avCCt avOPt 25 152 avC152_0 [(4, ([(2, 7, [(3, 1)], 0), (0, 0, [(0, 1)], 0), (0, 0, [(1, 1)], 0), (0, 0, [(2, 1)], 0)], [(0, 7), (-2147483648, 2147483647), (0, 12), (0, 4095)], [], []), ([(2, -2)], 25))] = true := by decide +kernel
theorem avX151_0 : avCB avRT avTT avCCt avOPt 23 151 avC151_0 [(4, ([(2, 18, [(3, 1)], 0), (0, 0, [(0, 1)], 0), (0, 0, [(1, 1)], 0), (0, 0, [(2, 1)], 0)], [(0, 7), (-2147483648, 2147483647), (0, 6), (0, 4095)], [], []), ([(2, -2)], 13))] = true := by decide +kernel
theorem avX153_0 : avCB avRT avTT avCCt avOPt 27 153 avC153_0 [(4, ([(2, 18, [(3, 1)], 0), (0, 0, [(0, 1)], 0), (0, 0, [(1, 1)], 0), (0, 0, [(2, 1)], 0)], [(0, 7), (-2147483648, 2147483647), (0, 6), (0, 4095)], [], []), ([(2, -2)], 13))] = true := by decide +kernel
theorem avX150_0 : avCB avRT avTT avCCt avOPt 26 150 avC150_0 [] = true := by decide +kernel
theorem avX154_0 : avCB avRT avTT avCCt avOPt 56 154 avC154_0 [] = true := by decide +kernel
theorem avX157_0 : avCB avRT avTT avCCt avOPt 21 157 avC157_0 [(4, ([(2, 18, [(2, 1)], 0), (0, 0, [(0, 1)], 0), (0, 0, [(1, 1)], 0)], [(-2147483648, 2147483647), (0, 6), (0, 4095)], [], []), ([(1, -2)], 13))] = true := by decide +kernel
theorem avX158_0 : avCB avRT avTT avCCt avOPt 21 158 avC158_0 [(4, ([(2, 18, [(2, 1)], 0), (0, 0, [(0, 1)], 0), (0, 0, [(1, 1)], 0)], [(-2147483648, 2147483647), (0, 6), (0, 4095)], [], []), ([(1, -2)], 13))] = true := by decide +kernel
theorem avX159_0 : avCB avRT avTT avCCt avOPt 22 159 avC159_0 [(4, ([(2, 18, [(2, 1)], 0), (0, 0, [(0, 1)], 0), (0, 0, [(1, 1)], 0)], [(-2147483648, 2147483647), (0, 6), (0, 4095)], [], []), ([(1, -2)], 13))] = true := by decide +kernel
theorem avX160_0 : avCB avRT avTT avCCt avOPt 28 160 avC160_0 [(4, ([(2, 0, [], 0), (0, 0, [(0, 1)], 0), (0, 0, [(1, 1)], 0)], [(0, 4), (0, 4)], [([(0, -1), (1, 1)], 0)], []), ([(1, -2)], 9))] = true := by decide +kernel
theorem avX156_0 : avCB avRT avTT avCCt avOPt 16 156 avC156_0 [] = true := by decide +kernel
theorem avX44_0 : avCB avRT avTT avCCt avOPt 62 44 avC44_0 [] = true := by decide +kernel
theorem avX43_0 : avCB avRT avTT avCCt avOPt 110 43 avC43_0 [] = true := by decide +kernel
theorem avX162_0 : avCB avRT avTT avCCt avOPt 62 162 avC162_0 [(13, ([(2, 18, [(1, 1)], 0), (2, 18, [(2, 1)], 0), (0, 0, [(0, 1)], 0)], [(0, 6), (0, 4095), (0, 4095)], [], []), ([(0, -2)], 13))] = true := by decide +kernel
theorem avX164_0 : avCB avRT avTT avCCt avOPt 31 164 avC164_0 [] = true := by decide +kernel
theorem avX167_0 : avCB avRT avTT avCCt avOPt 62 167 avC167_0 [] = true := by decide +kernel
theorem avX169_0 : avCB avRT avTT avCCt avOPt 119 169 avC169_0 [] = true := by decide +kernel
theorem avX17_0 : avCB avRT avTT avCCt avOPt 19 17 avC17_0 [] = true := by decide +kernel
theorem avX178_0 : avCB avRT avTT avCCt avOPt 42 178 avC178_0 [(55, ([(2, 51, [], 860), (6, 0, [], 0), (6, 0, [], 0), (6, 0, [], 0), (6, 0, [], 0), (6, 0, [], 0), (0, 0, [(0, 1)], 0)], [(0, 29), (0, 580), (-2147483648, 2147483647), (-2147483648, 2147483647), (-2147483648, 2147483647), (-2147483648, 2147483647), (-2147483648, 2147483647)], [], [(51, ([], 860), ([], 5), 0, 0, [(1, 1)], 0), (55, ([], 865), ([], 0), 0, 0, [(2, 1)], 0), (55, ([], 865), ([], 1), 0, 0, [(3, 1)], 0), (55, ([], 865), ([], 2), 0, 0, [(4, 1)], 0), (55, ([], 865), ([], 3), 0, 0, [(5, 1)], 0), (55, ([], 865), ([], 4), 0, 0, [(6, 1)], 0)]), ([(0, -2)], 59))] = true := by decide +kernel
theorem avX179_0 : avCB avRT avTT avCCt avOPt 32 179 avC179_0 [] = true := by decide +kernel
theorem avX19_0 : avCB avRT avTT avCCt avOPt 34 19 avC19_0 [(2, ([(2, 18, [(1, 1)], 0), (0, 0, [(0, 1)], 0)], [(0, 6), (0, 4095)], [], []), ([(0, -2)], 13))] = true := by decide +kernel
theorem avX29_0 : avCB avRT avTT avCCt avOPt 65 29 avC29_0 [] = true := by decide +kernel
theorem avX33_0 : avCB avRT avTT avCCt avOPt 55 33 avC33_0 [] = true := by decide +kernel
theorem avX38_0 : avCB avRT avTT avCCt avOPt 35 38 avC38_0 [] = true := by decide +kernel
theorem avX40_0 : avCB avRT avTT avCCt avOPt 34 40 avC40_0 [] = true := by decide +kernel
theorem avX37_0 : avCB avRT avTT avCCt avOPt 89 37 avC37_0 [] = true := by decide +kernel
theorem avX36_0 : avCB avRT avTT avCCt avOPt 50 36 avC36_0 [(6, ([(2, 31, [], 2), (0, 0, [(0, 1)], 1)], [(0, 3)], [], []), ([(0, -2)], 7))] = true := by decide +kernel
theorem avX26_0 : avCB avRT avTT avCCt avOPt 103 26 avC26_0 [] = true := by decide +kernel
theorem avX4_0 : avCB avRT avTT avCCt avOPt 34 4 avC4_0 [(22, ([(2, 36, [(1, 1)], 0), (0, 0, [(0, 1)], 0)], [(0, 6), (0, 4095)], [], [(36, ([(1, 1)], 0), ([], 0), 0, 0, [], 0), (36, ([(1, 1)], 0), ([], 1), 0, 0, [], 0), (36, ([(1, 1)], 0), ([], 2), 0, 0, [], 0), (36, ([(1, 1)], 0), ([], 10), 0, 0, [], 0)]), ([(0, -2)], 24)),
  (64, ([(2, 36, [(1, 1)], 0), (0, 0, [(0, 1)], 0)], [(0, 4), (0, 4095)], [], [(36, ([(1, 1)], 0), ([], 0), 0, 0, [], 0), (36, ([(1, 1)], 0), ([], 1), 0, 0, [], 0), (36, ([(1, 1)], 0), ([], 2), 0, 0, [], 0), (36, ([(1, 1)], 0), ([], 10), 0, 0, [], 0)]), ([(0, -2)], 9))] = true := by decide +kernel
theorem avX21_0 : avCB avRT avTT avCCt avOPt 38 21 avC21_0 [(41, ([(2, 31, [], 2), (6, 0, [], 0), (0, 0, [(0, 1)], 0)], [(0, 59)], [], []), ([(0, -2)], 119))] = true := by decide +kernel
theorem avX42_0 : avCB avRT avTT avCCt avOPt 56 42 avC42_0 [(10, ([(2, 18, [(1, 1)], 0), (2, 36, [(2, 1)], 0), (0, 0, [(0, 1)], 0)], [(0, 6), (0, 4095), (0, 4095)], [], []), ([(0, -2)], 13))] = true := by decide +kernel
theorem avX18_0 : avCB avRT avTT avCCt avOPt 39 18 avC18_0 [] = true := by decide +kernel
theorem avX183_0 : avCB avRT avTT avCCt avOPt 22 183 avC183_0 [(2, ([(2, 51, [], 860), (0, 0, [(0, 1)], 0), (0, 0, [(1, 1)], 0)], [(0, 5), (0, 4)], [], []), ([(1, -2)], 9))] = true := by decide +kernel
theorem avX191_0 : avCB avRT avTT avCCt avOPt 146 191 avC191_0 [] = true := by decide +kernel
theorem avX194_0 : avCB avRT avTT avCCt avOPt 128 194 avC194_0 [] = true := by decide +kernel
theorem avX197_0 : avCB avRT avTT avCCt avOPt 35 197 avC197_0 [] = true := by decide +kernel
theorem avX198_0 : avCB avRT avTT avCCt avOPt 28 198 avC198_0 [] = true := by decide +kernel
theorem avX199_0 : avCB avRT avTT avCCt avOPt 17 199 avC199_0 [] = true := by decide +kernel
theorem avX204_0 : avCB avRT avTT avCCt avOPt 81 204 avC204_0 [] = true := by decide +kernel
theorem avX208_0 : avCB avRT avTT avCCt avOPt 137 208 avC208_0 [] = true := by decide +kernel
theorem avX207_0 : avCB avRT avTT avCCt avOPt 52 207 avC207_0 [] = true := by decide +kernel
theorem avX212_0 : avCB avRT avTT avCCt avOPt 26 212 avC212_0 [] = true := by decide +kernel
theorem avX211_0 : avCB avRT avTT avCCt avOPt 98 211 avC211_0 [(90, ([(2, 51, [], 860), (0, 0, [(0, 1)], 0), (6, 0, [], 0), (0, 0, [(1, 1)], 0)], [(0, 5), (0, 12)], [], []), ([(1, -2)], 25))] = true := by decide +kernel
theorem avX218_0 : avCB avRT avTT avCCt avOPt 75 218 avC218_0 [(52, ([(2, 51, [], 860), (0, 0, [(0, 1)], 0), (0, 0, [(1, 1)], 0), (0, 0, [(2, 1)], 0)], [(0, 5), (-2147483648, 2147483647), (0, 12)], [], [(77, ([], 861), ([(0, 164)], 525), 0, 0, [], 0), (51, ([], 860), ([], 32), 0, 0, [], 0)]), ([(2, -2)], 25))] = true := by decide +kernel
theorem avX220_0 : avCB avRT avTT avCCt avOPt 48 220 avC220_0 [] = true := by decide +kernel
theorem avX221_0 : avCB avRT avTT avCCt avOPt 198 221 avC221_0 [] = true := by decide +kernel
theorem avX224_0 : avCB avRT avTT avCCt avOPt 125 224 avC224_0 [(45, ([(2, 51, [], 860), (0, 0, [(0, 1)], 0), (6, 0, [], 0), (0, 0, [(0, 164)], 520), (0, 0, [(2, 1)], 0), (0, 0, [(1, 1)], 0), (0, 0, [(3, 1)], 0)], [(0, 5), (-2147483648, 2147483647), (0, 1), (-1, 11), (0, 2147483647)], [([(3, -1), (4, 1)], -1)], [(77, ([], 861), ([(0, 164)], 520), 0, 0, [(4, 1)], 0)]), ([(3, 2)], 3))] = true := by decide +kernel
