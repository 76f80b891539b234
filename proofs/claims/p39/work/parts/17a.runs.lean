/-! runs of contracts -/
theorem avX144_0 : avCB avRT avTT avCCt avOPt 26 144 avC144_0 [(23, ([(2, 10, [], 825), (0, 0, [(0, 1)], 1), (6, 0, [], 0), (0, 0, [(1, 1)], 0)], [(0, 5), (0, 6), (0, 800), (0, 800)], [([(2, 1), (3, -1)], 0)], [(10, ([], 825), ([], 6), 0, 0, [(2, 1)], 0), (10, ([], 825), ([], 7), 0, 0, [(3, 1)], 0)]), ([(1, -2)], 13))] = true := by decide +kernel
theorem avX143_0 : avCB avRT avTT avCCt avOPt 15 143 avC143_0 [] = true := by decide +kernel
theorem avX145_0 : avCB avRT avTT avCCt avOPt 52 145 avC145_0 [(13, ([(2, 10, [], 825), (6, 0, [], 0), (0, 0, [(0, 1)], 0), (0, 0, [(1, 1)], 0), (0, 0, [(2, 1)], 0), (0, 0, [(3, 1)], 0), (0, 0, [(4, 1)], 0), (0, 0, [(5, 1)], 0)], [(-99, 20), (-2147483648, 2147483647), (-2147483648, 2147483647), (0, 2147483647), (-2147483648, 2147483647), (0, 6)], [], []), ([(5, -2)], 13))] = true := by decide +kernel
theorem avX143_1 : avCB avRT avTT avCCt avOPt 41 143 avC143_1 [(31, ([(2, 10, [], 825), (0, 0, [], 5), (0, 0, [(2, 1)], 0), (0, 0, [(0, 1)], 0), (0, 0, [(1, 1)], 0)], [(-2147483648, 2147483647), (0, 6), (-41, 20)], [], []), ([(1, -2)], 13))] = true := by decide +kernel
theorem avX143_2 : avCB avRT avTT avCCt avOPt 41 143 avC143_2 [(31, ([(2, 10, [], 825), (0, 0, [], 4), (0, 0, [(2, 1)], 0), (0, 0, [(0, 1)], 0), (0, 0, [(1, 1)], 0)], [(-2147483648, 2147483647), (0, 6), (-41, 20)], [], []), ([(1, -2)], 13))] = true := by decide +kernel
theorem avX143_3 : avCB avRT avTT avCCt avOPt 41 143 avC143_3 [(31, ([(2, 10, [], 825), (0, 0, [], 3), (0, 0, [(0, 1), (1, -1)], 0), (0, 0, [(2, 1)], 0), (0, 0, [(3, 1)], 0)], [(0, 20), (0, 1), (-2147483648, 2147483647), (0, 6)], [([(0, 1), (1, -1)], -1)], []), ([(3, -2)], 13))] = true := by decide +kernel
theorem avX143_4 : avCB avRT avTT avCCt avOPt 41 143 avC143_4 [(31, ([(2, 10, [], 825), (0, 0, [], 2), (0, 0, [(2, 1)], 0), (0, 0, [(0, 1)], 0), (0, 0, [(1, 1)], 0)], [(-2147483648, 2147483647), (0, 6), (-41, 20)], [], []), ([(1, -2)], 13))] = true := by decide +kernel
theorem avX143_5 : avCB avRT avTT avCCt avOPt 41 143 avC143_5 [(31, ([(2, 10, [], 825), (0, 0, [], 1), (0, 0, [(2, 1)], 0), (0, 0, [(0, 1)], 0), (0, 0, [(1, 1)], 0)], [(-2147483648, 2147483647), (0, 6), (-41, 20)], [], []), ([(1, -2)], 13))] = true := by decide +kernel
theorem avX143_6 : avCB avRT avTT avCCt avOPt 14 143 avC143_6 [] = true := by decide +kernel
theorem avX143_7 : avCB avRT avTT avCCt avOPt 41 143 avC143_7 [(31, ([(2, 10, [], 825), (0, 0, [], 5), (0, 0, [(0, 1)], 0), (0, 0, [], 0), (0, 0, [(1, 1)], 0)], [(1, 20), (0, 6)], [], []), ([(1, -2)], 13))] = true := by decide +kernel
theorem avX143_8 : avCB avRT avTT avCCt avOPt 41 143 avC143_8 [(31, ([(2, 10, [], 825), (0, 0, [], 4), (0, 0, [(0, 1)], 0), (0, 0, [], 0), (0, 0, [(1, 1)], 0)], [(1, 20), (0, 6)], [], []), ([(1, -2)], 13))] = true := by decide +kernel
theorem avX143_9 : avCB avRT avTT avCCt avOPt 41 143 avC143_9 [(31, ([(2, 10, [], 825), (0, 0, [], 3), (0, 0, [(0, 1)], 0), (0, 0, [], 0), (0, 0, [(1, 1)], 0)], [(1, 20), (0, 6)], [], []), ([(1, -2)], 13))] = true := by decide +kernel
theorem avX143_10 : avCB avRT avTT avCCt avOPt 41 143 avC143_10 [(31, ([(2, 10, [], 825), (0, 0, [], 2), (0, 0, [(0, 1)], 0), (0, 0, [], 0), (0, 0, [(1, 1)], 0)], [(1, 20), (0, 6)], [], []), ([(1, -2)], 13))] = true := by decide +kernel
theorem avX143_11 : avCB avRT avTT avCCt avOPt 41 143 avC143_11 [(31, ([(2, 10, [], 825), (0, 0, [], 1), (0, 0, [(0, 1)], 0), (0, 0, [], 0), (0, 0, [(1, 1)], 0)], [(1, 20), (0, 6)], [], []), ([(1, -2)], 13))] = true := by decide +kernel
theorem avX143_12 : avCB avRT avTT avCCt avOPt 41 143 avC143_12 [(31, ([(2, 10, [], 825), (0, 0, [], 0), (0, 0, [(0, 1)], 0), (0, 0, [], 0), (0, 0, [(1, 1)], 0)], [(1, 20), (0, 6)], [], []), ([(1, -2)], 13))] = true := by decide +kernel
theorem avX188_0 : avCB avRT avTT avCCt avOPt 106 188 avC188_0 [] = true := by decide +kernel
theorem avX188_1 : avCB avRT avTT avCCt avOPt 106 188 avC188_1 [] = true := by decide +kernel
theorem avX188_2 : avCB avRT avTT avCCt avOPt 106 188 avC188_2 [] = true := by decide +kernel
theorem avX188_3 : avCB avRT avTT avCCt avOPt 194 188 avC188_3 [] = true := by decide +kernel
theorem avX188_4 : avCB avRT avTT avCCt avOPt 106 188 avC188_4 [] = true := by decide +kernel
theorem avX188_5 : avCB avRT avTT avCCt avOPt 172 188 avC188_5 [] = true := by decide +kernel
theorem avX188_6 : avCB avRT avTT avCCt avOPt 128 188 avC188_6 [] = true := by decide +kernel
theorem avX188_7 : avCB avRT avTT avCCt avOPt 150 188 avC188_7 [] = true := by decide +kernel
theorem avX188_8 : avCB avRT avTT avCCt avOPt 150 188 avC188_8 [] = true := by decide +kernel
theorem avX188_9 : avCB avRT avTT avCCt avOPt 128 188 avC188_9 [] = true := by decide +kernel
theorem avX188_10 : avCB avRT avTT avCCt avOPt 150 188 avC188_10 [] = true := by decide +kernel
theorem avX188_11 : avCB avRT avTT avCCt avOPt 128 188 avC188_11 [] = true := by decide +kernel
theorem avX188_12 : avCB avRT avTT avCCt avOPt 106 188 avC188_12 [] = true := by decide +kernel
theorem avX188_13 : avCB avRT avTT avCCt avOPt 128 188 avC188_13 [] = true := by decide +kernel
theorem avX188_14 : avCB avRT avTT avCCt avOPt 150 188 avC188_14 [] = true := by decide +kernel
theorem avX188_15 : avCB avRT avTT avCCt avOPt 106 188 avC188_15 [] = true := by decide +kernel
theorem avX188_16 : avCB avRT avTT avCCt avOPt 150 188 avC188_16 [] = true := by decide +kernel
theorem avX188_17 : avCB avRT avTT avCCt avOPt 150 188 avC188_17 [] = true := by decide +kernel
theorem avX188_18 : avCB avRT avTT avCCt avOPt 150 188 avC188_18 [] = true := by decide +kernel
theorem avX188_19 : avCB avRT avTT avCCt avOPt 150 188 avC188_19 [] = true := by decide +kernel
theorem avX188_20 : avCB avRT avTT avCCt avOPt 128 188 avC188_20 [] = true := by decide +kernel
theorem avX188_21 : avCB avRT avTT avCCt avOPt 106 188 avC188_21 [] = true := by decide +kernel
theorem avX184_0 : avCB avRT avTT avCCt avOPt 122 184 avC184_0 [(0, ([(2, 51, [], 860), (6, 0, [], 0)], [(0, 600), (0, 600)], [], [(51, ([], 860), ([], 8), 0, 0, [(0, 1)], 0), (51, ([], 860), ([], 7), 0, 0, [(1, 1)], 0)]), ([(0, -2)], 3607)),
  (83, ([(2, 51, [], 860), (6, 0, [], 0)], [(0, 600), (1, 600), (0, 600)], [([(0, 1), (2, -1)], 0)], [(51, ([], 860), ([], 8), 0, 0, [(0, 1)], 0), (51, ([], 860), ([], 7), 0, 0, [(1, 1)], 0), (51, ([], 860), ([], 9), 0, 0, [(2, 1)], 0)]), ([(0, -2)], 2404)),
  (144, ([(2, 51, [], 860), (6, 0, [], 0)], [(0, 600), (1, 600), (0, 600), (-2147483648, 999999)], [([(0, 1), (2, -1)], 0)], [(51, ([], 860), ([], 8), 0, 0, [(0, 1)], 0), (51, ([], 860), ([], 7), 0, 0, [(1, 1)], 0), (51, ([], 860), ([], 9), 0, 0, [(2, 1)], 0), (51, ([], 860), ([], 11), 0, 0, [(3, 1)], 0)]), ([(0, -2)], 1201))] = true := by decide +kernel
theorem avX190_0 : avCB avRT avTT avCCt avOPt 18 190 avC190_0 [] = true := by decide +kernel
theorem avX190_1 : avCB avRT avTT avCCt avOPt 18 190 avC190_1 [] = true := by decide +kernel
theorem avX190_2 : avCB avRT avTT avCCt avOPt 18 190 avC190_2 [] = true := by decide +kernel
theorem avX190_3 : avCB avRT avTT avCCt avOPt 18 190 avC190_3 [] = true := by decide +kernel
theorem avX190_4 : avCB avRT avTT avCCt avOPt 18 190 avC190_4 [] = true := by decide +kernel
theorem avX190_5 : avCB avRT avTT avCCt avOPt 18 190 avC190_5 [] = true := by decide +kernel
theorem avX190_6 : avCB avRT avTT avCCt avOPt 18 190 avC190_6 [] = true := by decide +kernel
theorem avX190_7 : avCB avRT avTT avCCt avOPt 18 190 avC190_7 [] = true := by decide +kernel
theorem avX190_8 : avCB avRT avTT avCCt avOPt 18 190 avC190_8 [] = true := by decide +kernel
theorem avX190_9 : avCB avRT avTT avCCt avOPt 18 190 avC190_9 [] = true := by decide +kernel
theorem avX190_10 : avCB avRT avTT avCCt avOPt 18 190 avC190_10 [] = true := by decide +kernel
theorem avX190_11 : avCB avRT avTT avCCt avOPt 18 190 avC190_11 [] = true := by decide +kernel
theorem avX190_12 : avCB avRT avTT avCCt avOPt 18 190 avC190_12 [] = true := by decide +kernel
theorem avX190_13 : avCB avRT avTT avCCt avOPt 18 190 avC190_13 [] = true := by decide +kernel
theorem avX190_14 : avCB avRT avTT avCCt avOPt 18 190 avC190_14 [] = true := by decide +kernel
theorem avX192_0 : avCB avRT avTT avCCt avOPt 79 192 avC192_0 [] = true := by decide +kernel
theorem avX192_1 : avCB avRT avTT avCCt avOPt 79 192 avC192_1 [] = true := by decide +kernel
theorem avX192_2 : avCB avRT avTT avCCt avOPt 79 192 avC192_2 [] = true := by decide +kernel
theorem avX192_3 : avCB avRT avTT avCCt avOPt 79 192 avC192_3 [] = true := by decide +kernel
theorem avX192_4 : avCB avRT avTT avCCt avOPt 79 192 avC192_4 [] = true := by decide +kernel
theorem avX192_5 : avCB avRT avTT avCCt avOPt 79 192 avC192_5 [] = true := by decide +kernel
theorem avX192_6 : avCB avRT avTT avCCt avOPt 79 192 avC192_6 [] = true := by decide +kernel
theorem avX192_7 : avCB avRT avTT avCCt avOPt 79 192 avC192_7 [] = true := by decide +kernel
theorem avX192_8 : avCB avRT avTT avCCt avOPt 79 192 avC192_8 [] = true := by decide +kernel
theorem avX192_9 : avCB avRT avTT avCCt avOPt 79 192 avC192_9 [] = true := by decide +kernel
theorem avX192_10 : avCB avRT avTT avCCt avOPt 79 192 avC192_10 [] = true := by decide +kernel
theorem avX193_0 : avCB avRT avTT avCCt avOPt 37 193 avC193_0 [] = true := by decide +kernel
theorem avX193_1 : avCB avRT avTT avCCt avOPt 37 193 avC193_1 [] = true := by decide +kernel
theorem avX193_2 : avCB avRT avTT avCCt avOPt 37 193 avC193_2 [] = true := by decide +kernel
theorem avX193_3 : avCB avRT avTT avCCt avOPt 37 193 avC193_3 [] = true := by decide +kernel
theorem avX193_4 : avCB avRT avTT avCCt avOPt 37 193 avC193_4 [] = true := by decide +kernel
theorem avX193_5 : avCB avRT avTT avCCt avOPt 37 193 avC193_5 [] = true := by decide +kernel
theorem avX193_6 : avCB avRT avTT avCCt avOPt 37 193 avC193_6 [] = true := by decide +kernel
theorem avX193_7 : avCB avRT avTT avCCt avOPt 37 193 avC193_7 [] = true := by decide +kernel
theorem avX193_8 : avCB avRT avTT avCCt avOPt 37 193 avC193_8 [] = true := by decide +kernel
theorem avX193_9 : avCB avRT avTT avCCt avOPt 37 193 avC193_9 [] = true := by decide +kernel
theorem avX257_0 : avCB avRT avTT avCCt avOPt 26 257 avC257_0 [(36, ([(2, 51, [], 860), (6, 0, [], 0), (6, 0, [], 0), (6, 0, [], 0), (6, 0, [], 0), (6, 0, [], 0), (0, 0, [(0, 1)], 0), (6, 0, [], 0)], [(0, 6), (0, 800)], [], [(51, ([], 860), ([], 34), 0, 0, [(1, 1)], 0)]), ([(0, -2)], 13))] = true := by decide +kernel
theorem avX181_0 : avCB avRT avTT avCCt avOPt 38 181 avC181_0 [(4, ([(2, 51, [], 860), (0, 0, [(0, 1)], 0), (0, 0, [(1, 1)], 0), (0, 0, [(2, 1)], 0)], [(0, 5), (-2147483648, 2147483647), (0, 12)], [], []), ([(2, -2)], 25))] = true := by decide +kernel
theorem avX258_0 : avCB avRT avTT avCCt avOPt 41 258 avC258_0 [(5, ([(2, 51, [], 860), (0, 0, [(0, 1)], 0), (1, 0, [(1, 1)], 0), (6, 0, [], 0), (0, 0, [(2, 1)], 0)], [(0, 5), (-9223372036854775808, 9223372036854775807), (0, 12)], [], []), ([(2, -2)], 25))] = true := by decide +kernel
theorem avX257_1 : avCB avRT avTT avCCt avOPt 80 257 avC257_1 [(108, ([(2, 51, [], 860), (0, 0, [], 5), (0, 0, [(0, 1)], 0), (0, 0, [(1, 1), (2, -1)], 0), (0, 0, [(3, 1)], 0), (0, 0, [(4, 1)], 0), (0, 0, [(5, 1)], 0), (0, 0, [(6, 1)], 0)], [(0, 3), (-1, 20), (0, 1), (-2147483648, 2147483647), (0, 800), (-2147483648, 5), (0, 6)], [([(1, 1), (2, -1)], 0)], []), ([(6, -2)], 13))] = true := by decide +kernel
theorem avX257_2 : avCB avRT avTT avCCt avOPt 80 257 avC257_2 [(108, ([(2, 51, [], 860), (0, 0, [], 4), (0, 0, [(0, 1)], 0), (0, 0, [(1, 1), (2, -1)], 0), (0, 0, [(3, 1)], 0), (0, 0, [(4, 1)], 0), (0, 0, [(5, 1)], 0), (0, 0, [(6, 1)], 0)], [(0, 3), (-1, 20), (0, 1), (-2147483648, 2147483647), (0, 800), (-2147483648, 5), (0, 6)], [([(1, 1), (2, -1)], 0)], []), ([(6, -2)], 13))] = true := by decide +kernel
theorem avX257_3 : avCB avRT avTT avCCt avOPt 80 257 avC257_3 [(108, ([(2, 51, [], 860), (0, 0, [], 3), (0, 0, [(0, 1)], 0), (0, 0, [(1, 1), (2, -1)], 0), (0, 0, [(3, 1)], 0), (0, 0, [(4, 1)], 0), (0, 0, [(5, 1)], 0), (0, 0, [(6, 1)], 0)], [(0, 3), (-1, 20), (0, 1), (-2147483648, 2147483647), (0, 800), (-2147483648, 5), (0, 6)], [([(1, 1), (2, -1)], 0)], []), ([(6, -2)], 13))] = true := by decide +kernel
theorem avX257_4 : avCB avRT avTT avCCt avOPt 80 257 avC257_4 [(108, ([(2, 51, [], 860), (0, 0, [], 2), (0, 0, [(0, 1)], 0), (0, 0, [(1, 1), (2, -1)], 0), (0, 0, [(3, 1)], 0), (0, 0, [(4, 1)], 0), (0, 0, [(5, 1)], 0), (0, 0, [(6, 1)], 0)], [(0, 3), (-1, 20), (0, 1), (-2147483648, 2147483647), (0, 800), (-2147483648, 5), (0, 6)], [([(1, 1), (2, -1)], 0)], []), ([(6, -2)], 13))] = true := by decide +kernel
theorem avX257_5 : avCB avRT avTT avCCt avOPt 80 257 avC257_5 [(108, ([(2, 51, [], 860), (0, 0, [], 1), (0, 0, [(0, 1)], 0), (0, 0, [(1, 1), (2, -1)], 0), (0, 0, [(3, 1)], 0), (0, 0, [(4, 1)], 0), (0, 0, [(5, 1)], 0), (0, 0, [(6, 1)], 0)], [(0, 3), (-41, 20), (0, 1), (-2147483648, 2147483647), (0, 800), (-2147483648, 5), (0, 6)], [], []), ([(6, -2)], 13))] = true := by decide +kernel
theorem avX257_6 : avCB avRT avTT avCCt avOPt 14 257 avC257_6 [] = true := by decide +kernel
theorem avX257_7 : avCB avRT avTT avCCt avOPt 80 257 avC257_7 [(108, ([(2, 51, [], 860), (0, 0, [], 5), (0, 0, [(0, 1)], 0), (0, 0, [(1, 1)], 0), (0, 0, [], 0), (0, 0, [(2, 1)], 0), (0, 0, [(3, 1)], 0), (0, 0, [(4, 1)], 0)], [(0, 3), (1, 20), (0, 800), (-2147483648, 5), (0, 6)], [], []), ([(4, -2)], 13))] = true := by decide +kernel
theorem avX257_8 : avCB avRT avTT avCCt avOPt 80 257 avC257_8 [(108, ([(2, 51, [], 860), (0, 0, [], 4), (0, 0, [(0, 1)], 0), (0, 0, [(1, 1)], 0), (0, 0, [], 0), (0, 0, [(2, 1)], 0), (0, 0, [(3, 1)], 0), (0, 0, [(4, 1)], 0)], [(0, 3), (1, 20), (0, 800), (-2147483648, 5), (0, 6)], [], []), ([(4, -2)], 13))] = true := by decide +kernel
theorem avX257_9 : avCB avRT avTT avCCt avOPt 80 257 avC257_9 [(108, ([(2, 51, [], 860), (0, 0, [], 3), (0, 0, [(0, 1)], 0), (0, 0, [(1, 1)], 0), (0, 0, [], 0), (0, 0, [(2, 1)], 0), (0, 0, [(3, 1)], 0), (0, 0, [(4, 1)], 0)], [(0, 3), (1, 20), (0, 800), (-2147483648, 5), (0, 6)], [], []), ([(4, -2)], 13))] = true := by decide +kernel
theorem avX257_10 : avCB avRT avTT avCCt avOPt 80 257 avC257_10 [(108, ([(2, 51, [], 860), (0, 0, [], 2), (0, 0, [(0, 1)], 0), (0, 0, [(1, 1)], 0), (0, 0, [], 0), (0, 0, [(2, 1)], 0), (0, 0, [(3, 1)], 0), (0, 0, [(4, 1)], 0)], [(0, 3), (1, 20), (0, 800), (-2147483648, 5), (0, 6)], [], []), ([(4, -2)], 13))] = true := by decide +kernel
theorem avX257_11 : avCB avRT avTT avCCt avOPt 80 257 avC257_11 [(108, ([(2, 51, [], 860), (0, 0, [], 1), (0, 0, [(0, 1)], 0), (0, 0, [(1, 1)], 0), (0, 0, [], 0), (0, 0, [(2, 1)], 0), (0, 0, [(3, 1)], 0), (0, 0, [(4, 1)], 0)], [(0, 3), (1, 20), (0, 800), (-2147483648, 5), (0, 6)], [], []), ([(4, -2)], 13))] = true := by decide +kernel
theorem avX257_12 : avCB avRT avTT avCCt avOPt 80 257 avC257_12 [(108, ([(2, 51, [], 860), (0, 0, [], 0), (0, 0, [(0, 1)], 0), (0, 0, [(1, 1)], 0), (0, 0, [], 0), (0, 0, [(2, 1)], 0), (0, 0, [(3, 1)], 0), (0, 0, [(4, 1)], 0)], [(0, 3), (1, 20), (0, 800), (-2147483648, 5), (0, 6)], [], []), ([(4, -2)], 13))] = true := by decide +kernel
theorem avX27_0 : avCB avRT avTT avCCt avOPt 79 27 avC27_0 [] = true := by decide +kernel
theorem avX27_1 : avCB avRT avTT avCCt avOPt 79 27 avC27_1 [] = true := by decide +kernel
theorem avX27_2 : avCB avRT avTT avCCt avOPt 79 27 avC27_2 [] = true := by decide +kernel
theorem avX27_3 : avCB avRT avTT avCCt avOPt 147 27 avC27_3 [] = true := by decide +kernel
theorem avX27_4 : avCB avRT avTT avCCt avOPt 79 27 avC27_4 [] = true := by decide +kernel
theorem avX27_5 : avCB avRT avTT avCCt avOPt 130 27 avC27_5 [] = true := by decide +kernel
theorem avX27_6 : avCB avRT avTT avCCt avOPt 96 27 avC27_6 [] = true := by decide +kernel
theorem avX27_7 : avCB avRT avTT avCCt avOPt 113 27 avC27_7 [] = true := by decide +kernel
theorem avX27_8 : avCB avRT avTT avCCt avOPt 113 27 avC27_8 [] = true := by decide +kernel
theorem avX27_9 : avCB avRT avTT avCCt avOPt 96 27 avC27_9 [] = true := by decide +kernel
theorem avX27_10 : avCB avRT avTT avCCt avOPt 113 27 avC27_10 [] = true := by decide +kernel
theorem avX27_11 : avCB avRT avTT avCCt avOPt 96 27 avC27_11 [] = true := by decide +kernel
theorem avX27_12 : avCB avRT avTT avCCt avOPt 79 27 avC27_12 [] = true := by decide +kernel
theorem avX27_13 : avCB avRT avTT avCCt avOPt 96 27 avC27_13 [] = true := by decide +kernel
theorem avX27_14 : avCB avRT avTT avCCt avOPt 113 27 avC27_14 [] = true := by decide +kernel
theorem avX27_15 : avCB avRT avTT avCCt avOPt 79 27 avC27_15 [] = true := by decide +kernel
theorem avX27_16 : avCB avRT avTT avCCt avOPt 113 27 avC27_16 [] = true := by decide +kernel
theorem avX27_17 : avCB avRT avTT avCCt avOPt 113 27 avC27_17 [] = true := by decide +kernel
theorem avX27_18 : avCB avRT avTT avCCt avOPt 113 27 avC27_18 [] = true := by decide +kernel
theorem avX27_19 : avCB avRT avTT avCCt avOPt 113 27 avC27_19 [] = true := by decide +kernel
theorem avX27_20 : avCB avRT avTT avCCt avOPt 96 27 avC27_20 [] = true := by decide +kernel
theorem avX27_21 : avCB avRT avTT avCCt avOPt 79 27 avC27_21 [] = true := by decide +kernel
theorem avX22_0 : avCB avRT avTT avCCt avOPt 99 22 avC22_0 [(8, ([(2, 31, [], 2)], [(0, 600), (0, 600)], [([(0, -1), (1, 1)], 0)], [(31, ([], 2), ([], 8), 0, 0, [(0, 1)], 0), (31, ([], 2), ([], 7), 0, 0, [(1, 1)], 0)]), ([(1, -2)], 3607)),
  (99, ([(2, 31, [], 2)], [(0, 600), (1, 600), (97, 122), (0, 600)], [([(0, -1), (1, 1)], -1), ([(0, -1), (3, 1)], 0)], [(31, ([], 2), ([], 7), 0, 0, [(0, 1)], 0), (31, ([], 2), ([], 4), 0, 0, [(1, 1)], 0), (50, ([], 1), ([(0, 1)], 0), 0, 0, [(2, 1)], 0), (31, ([], 2), ([], 8), 0, 0, [(3, 1)], 0), (31, ([], 2), ([], 6), 0, 0, [], 0), (31, ([], 2), ([], 5), 0, 0, [], 1)]), ([(3, -2)], 2404)),
  (158, ([(2, 31, [], 2)], [(0, 600), (1, 600), (48, 57), (0, 600), (0, 100000)], [([(0, -1), (1, 1)], -1), ([(0, -1), (3, 1)], 0)], [(31, ([], 2), ([], 7), 0, 0, [(0, 1)], 0), (31, ([], 2), ([], 4), 0, 0, [(1, 1)], 0), (50, ([], 1), ([(0, 1)], 0), 0, 0, [(2, 1)], 0), (31, ([], 2), ([], 8), 0, 0, [(3, 1)], 0), (31, ([], 2), ([], 6), 0, 0, [(4, 1)], 0), (31, ([], 2), ([], 5), 0, 0, [], 2)]), ([(3, -2)], 1201))] = true := by decide +kernel
