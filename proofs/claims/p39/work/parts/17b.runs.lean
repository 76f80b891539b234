/-! runs of contracts -/
theorem avX31_0 : avCB avRT avTT avCCt avOPt 39 31 avC31_0 [] = true := by decide +kernel
theorem avX30_0 : avCB avRT avTT avCCt avOPt 43 30 avC30_0 [] = true := by decide +kernel
theorem avX30_1 : avCB avRT avTT avCCt avOPt 43 30 avC30_1 [] = true := by decide +kernel
theorem avX31_1 : avCB avRT avTT avCCt avOPt 39 31 avC31_1 [] = true := by decide +kernel
theorem avX30_2 : avCB avRT avTT avCCt avOPt 43 30 avC30_2 [] = true := by decide +kernel
theorem avX30_3 : avCB avRT avTT avCCt avOPt 43 30 avC30_3 [] = true := by decide +kernel
theorem avX31_2 : avCB avRT avTT avCCt avOPt 39 31 avC31_2 [] = true := by decide +kernel
theorem avX31_3 : avCB avRT avTT avCCt avOPt 39 31 avC31_3 [] = true := by decide +kernel
theorem avX31_4 : avCB avRT avTT avCCt avOPt 39 31 avC31_4 [] = true := by decide +kernel
theorem avX31_5 : avCB avRT avTT avCCt avOPt 39 31 avC31_5 [] = true := by decide +kernel
theorem avX31_6 : avCB avRT avTT avCCt avOPt 39 31 avC31_6 [] = true := by decide +kernel
theorem avX31_7 : avCB avRT avTT avCCt avOPt 39 31 avC31_7 [] = true := by decide +kernel
theorem avX31_8 : avCB avRT avTT avCCt avOPt 39 31 avC31_8 [] = true := by decide +kernel
theorem avX31_9 : avCB avRT avTT avCCt avOPt 39 31 avC31_9 [] = true := by decide +kernel
theorem avX31_10 : avCB avRT avTT avCCt avOPt 39 31 avC31_10 [] = true := by decide +kernel
theorem avX32_0 : avCB avRT avTT avCCt avOPt 34 32 avC32_0 [] = true := by decide +kernel
theorem avX32_1 : avCB avRT avTT avCCt avOPt 34 32 avC32_1 [] = true := by decide +kernel
theorem avX32_2 : avCB avRT avTT avCCt avOPt 34 32 avC32_2 [] = true := by decide +kernel
theorem avX32_3 : avCB avRT avTT avCCt avOPt 34 32 avC32_3 [] = true := by decide +kernel
theorem avX32_4 : avCB avRT avTT avCCt avOPt 34 32 avC32_4 [] = true := by decide +kernel
theorem avX32_5 : avCB avRT avTT avCCt avOPt 34 32 avC32_5 [] = true := by decide +kernel
theorem avX32_6 : avCB avRT avTT avCCt avOPt 34 32 avC32_6 [] = true := by decide +kernel
theorem avX32_7 : avCB avRT avTT avCCt avOPt 34 32 avC32_7 [] = true := by decide +kernel
theorem avX32_8 : avCB avRT avTT avCCt avOPt 34 32 avC32_8 [] = true := by decide +kernel
theorem avX32_9 : avCB avRT avTT avCCt avOPt 34 32 avC32_9 [] = true := by decide +kernel
theorem avX87_0 : avCB avRT avTT avCCt avOPt 14 87 avC87_0 [] = true := by decide +kernel
theorem avX87_1 : avCB avRT avTT avCCt avOPt 72 87 avC87_1 [(18, ([(2, 23, [], 817), (0, 0, [], 5), (0, 0, [(0, 1)], 0), (6, 0, [], 0)], [(0, 6)], [], []), ([(0, -17)], 103)),
  (26, ([(2, 23, [], 817), (0, 0, [], 5), (0, 0, [(0, 1)], 0), (0, 0, [(1, 1)], 0)], [(0, 5), (0, 6)], [], []), ([(0, -17), (1, -2)], 99))] = true := by decide +kernel
theorem avX87_2 : avCB avRT avTT avCCt avOPt 96 87 avC87_2 [(18, ([(2, 23, [], 817), (0, 0, [], 4), (0, 0, [(0, 1)], 0), (6, 0, [], 0)], [(0, 6)], [], []), ([(0, -17)], 103)),
  (26, ([(2, 23, [], 817), (0, 0, [], 4), (0, 0, [(0, 1)], 0), (0, 0, [(1, 1)], 0)], [(0, 5), (0, 6)], [], []), ([(0, -17), (1, -2)], 99))] = true := by decide +kernel
theorem avX87_3 : avCB avRT avTT avCCt avOPt 96 87 avC87_3 [(18, ([(2, 23, [], 817), (0, 0, [], 3), (0, 0, [(0, 1)], 0), (6, 0, [], 0)], [(0, 6)], [], []), ([(0, -17)], 103)),
  (26, ([(2, 23, [], 817), (0, 0, [], 3), (0, 0, [(0, 1)], 0), (0, 0, [(1, 1)], 0)], [(0, 5), (0, 6)], [], []), ([(0, -17), (1, -2)], 99))] = true := by decide +kernel
theorem avX87_4 : avCB avRT avTT avCCt avOPt 96 87 avC87_4 [(18, ([(2, 23, [], 817), (0, 0, [], 2), (0, 0, [(0, 1)], 0), (6, 0, [], 0)], [(0, 6)], [], []), ([(0, -17)], 103)),
  (26, ([(2, 23, [], 817), (0, 0, [], 2), (0, 0, [(0, 1)], 0), (0, 0, [(1, 1)], 0)], [(0, 5), (0, 6)], [], []), ([(0, -17), (1, -2)], 99))] = true := by decide +kernel
theorem avX87_5 : avCB avRT avTT avCCt avOPt 96 87 avC87_5 [(18, ([(2, 23, [], 817), (0, 0, [], 1), (0, 0, [(0, 1)], 0), (6, 0, [], 0)], [(0, 6)], [], []), ([(0, -17)], 103)),
  (26, ([(2, 23, [], 817), (0, 0, [], 1), (0, 0, [(0, 1)], 0), (0, 0, [(1, 1)], 0)], [(0, 5), (0, 6)], [], []), ([(0, -17), (1, -2)], 99))] = true := by decide +kernel
theorem avX87_6 : avCB avRT avTT avCCt avOPt 96 87 avC87_6 [(18, ([(2, 23, [], 817), (0, 0, [], 0), (0, 0, [(0, 1)], 0), (6, 0, [], 0)], [(0, 6)], [], []), ([(0, -17)], 103)),
  (26, ([(2, 23, [], 817), (0, 0, [], 0), (0, 0, [(0, 1)], 0), (0, 0, [(1, 1)], 0)], [(0, 5), (0, 6)], [], []), ([(0, -17), (1, -2)], 99))] = true := by decide +kernel
theorem avX10_0 : avCB avRT avTT avCCt avOPt 19 10 avC10_0 [(2, ([(2, 32, [(1, 1)], 0), (0, 0, [(0, 1)], 0)], [(0, 12), (0, 4095)], [], []), ([(0, -2)], 25))] = true := by decide +kernel
theorem avX63_0 : avCB avRT avTT avCCt avOPt 96 63 avC63_0 [] = true := by decide +kernel
theorem avX98_0 : avCB avRT avTT avCCt avOPt 55 98 avC98_0 [(14, ([(2, 7, [(5, 1)], 0), (0, 0, [(0, 1)], 0), (0, 0, [(1, 1)], 0), (0, 0, [(2, 1)], 0), (0, 0, [(3, 1)], 0), (0, 0, [(4, 1)], 0), (0, 0, [(6, 1)], 0)], [(0, 29), (0, 50), (0, 1), (-2147483648, 2147483647), (-2147483648, 2147483647), (0, 4095), (-1, 11), (0, 12)], [([(6, -1), (7, 1)], -1)], [(7, ([(5, 1)], 0), ([], 0), 0, 0, [(7, 1)], 0)]), ([(6, 2)], 3))] = true := by decide +kernel
theorem avX96_0 : avCB avRT avTT avCCt avOPt 46 96 avC96_0 [] = true := by decide +kernel
theorem avX101_0 : avCB avRT avTT avCCt avOPt 56 101 avC101_0 [] = true := by decide +kernel
theorem avX100_0 : avCB avRT avTT avCCt avOPt 52 100 avC100_0 [] = true := by decide +kernel
theorem avX102_0 : avCB avRT avTT avCCt avOPt 52 102 avC102_0 [(46, ([(2, 0, [], 0), (0, 0, [(0, 1)], 0), (0, 0, [(1, 1)], 0), (0, 0, [(2, 1)], 1), (0, 0, [(3, 1)], 0), (0, 0, [(2, 1), (4, 1)], 3), (6, 0, [], 0)], [(0, 5), (0, 1), (-1, 29), (-2147483648, 2147483647), (-1, 11)], [], []), ([(2, -2), (4, -2)], 81))] = true := by decide +kernel
theorem avX107_0 : avCB avRT avTT avCCt avOPt 90 107 avC107_0 [(16, ([(2, 36, [(4, 1)], 0), (6, 0, [], 0), (0, 0, [(0, 1)], 0), (0, 0, [(1, 1)], 0), (0, 0, [(2, 1)], 0), (0, 0, [(3, 1)], 0)], [(-2147483648, 2147483647), (-2147483648, 2147483647), (0, 9), (0, 30), (0, 4095)], [], []), ([(3, -2)], 61))] = true := by decide +kernel
theorem avX106_0 : avCB avRT avTT avCCt avOPt 139 106 avC106_0 [(2, ([(2, 7, [(2, 1)], 0), (2, 36, [(3, 1)], 0), (0, 0, [(0, 1)], 0), (0, 0, [(1, 1)], 0), (6, 0, [], 0)], [(-40, 50), (0, 12), (0, 4095), (0, 4095)], [], []), ([(1, -2)], 77)),
  (48, ([(2, 7, [(3, 1)], 0), (6, 0, [], 0), (0, 0, [(0, 1)], 0), (0, 0, [(1, 1)], 0), (6, 0, [], 0)], [(-40, 50), (0, 11), (0, 12), (0, 4095)], [], [(7, ([(3, 1)], 0), ([], 0), 0, 0, [(2, 1)], 0)]), ([(1, -2)], 50)),
  (83, ([(2, 7, [(3, 1)], 0), (6, 0, [], 0), (0, 0, [(0, 1)], 0), (0, 0, [(1, 1)], 0), (6, 0, [], 0)], [(-40, 50), (0, 12), (0, 12), (0, 4095)], [], [(7, ([(3, 1)], 0), ([], 0), 0, 0, [(2, 1)], 0)]), ([(1, -2)], 25))] = true := by decide +kernel
theorem avX109_0 : avCB avRT avTT avCCt avOPt 54 109 avC109_0 [(4, ([(2, 7, [(3, 1)], 0), (0, 0, [(0, 1)], 0), (0, 0, [(0, 1), (1, 1)], 0), (0, 0, [(2, 1)], 0), (6, 0, [], 0), (6, 0, [], 0)], [(0, 9999), (-19995, 0), (0, 12), (0, 4095)], [([(0, 1), (1, -1)], 0)], []), ([(2, -2)], 25))] = true := by decide +kernel
theorem avX110_0 : avCB avRT avTT avCCt avOPt 97 110 avC110_0 [(2, ([(2, 7, [(1, 1)], 0), (0, 0, [(0, 1)], 0), (6, 0, [], 0)], [(0, 12), (0, 4095)], [], []), ([(0, -2)], 25))] = true := by decide +kernel
