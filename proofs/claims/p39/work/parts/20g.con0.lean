/-! the contracts that the methods by hand call: a table of its own (printed by wip/gen/gen3.py) -/
noncomputable def avC86_h : avCon := (86, ([(2, 18, [(0, 1)], 0), (0, 0, [(1, 1)], 0)], [(0, 4095), (0, 5)], [], []), (0, 0, 1), [], 6)
noncomputable def avC272_h : avCon := (272, ([(1, 0, [(0, 1)], 0), (1, 0, [(1, 1)], 0)], [(-9223372036854775808, 9223372036854775807), (1, 1000)], [], []), (1, -9223372036854775808, 9223372036854775807), [], 0)
noncomputable def avC168_h : avCon := (168, ([(2, 34, [(0, 1)], 0), (0, 0, [(1, 1)], 0), (1, 0, [(2, 1)], 0)], [(0, 4095), (0, 59), (-9223372036854775808, 9223372036854775807)], [], []), (9, 0, 0), [], 0)
noncomputable def avC267_h : avCon := (267, ([(1, 0, [(0, 1)], 0), (0, 0, [(1, 1)], 0)], [(-9223372036854775808, 9223372036854775807), (0, 3)], [], []), (1, -9223372036854775808, 9223372036854775807), [], 0)
noncomputable def avCC0 : Lean.RArray (List avCon) := .branch 256 (.branch 128 (.branch 64 (.branch 32 (.leaf []) (.branch 48 (.branch 40 (.leaf []) (.branch 44 (.branch 42 (.leaf []) (.branch 43 (.leaf []) (.leaf [avC43_0]))) (.branch 46 (.branch 45 (.leaf [avC44_0]) (.leaf [])) (.leaf [])))) (.branch 56 (.branch 52 (.branch 50 (.leaf []) (.branch 51 (.leaf []) (.leaf [avC51_0]))) (.leaf [])) (.leaf [])))) (.branch 96 (.branch 80 (.leaf []) (.branch 88 (.branch 84 (.leaf []) (.branch 86 (.branch 85 (.leaf []) (.leaf [avC85_0])) (.branch 87 (.leaf [avC86_h]) (.leaf [])))) (.leaf []))) (.branch 112 (.leaf []) (.branch 120 (.branch 116 (.branch 114 (.leaf []) (.branch 115 (.leaf []) (.leaf [avC115_0]))) (.leaf [])) (.leaf []))))) (.branch 192 (.branch 160 (.leaf []) (.branch 176 (.branch 168 (.branch 164 (.branch 162 (.leaf []) (.branch 163 (.leaf [avC162_0]) (.leaf []))) (.leaf [])) (.branch 172 (.branch 170 (.branch 169 (.leaf [avC168_h]) (.leaf [])) (.leaf [])) (.leaf []))) (.branch 184 (.branch 180 (.leaf []) (.branch 182 (.branch 181 (.leaf []) (.leaf [avC181_0])) (.branch 183 (.leaf []) (.leaf [avC183_0])))) (.branch 188 (.branch 186 (.branch 185 (.leaf [avC184_0]) (.leaf [])) (.leaf [])) (.branch 190 (.branch 189 (.leaf [avC188_0, avC188_1, avC188_2, avC188_3, avC188_4, avC188_5, avC188_6, avC188_7, avC188_8, avC188_9, avC188_10, avC188_11, avC188_12, avC188_13, avC188_14, avC188_15, avC188_16, avC188_17, avC188_18, avC188_19, avC188_20, avC188_21]) (.leaf [])) (.branch 191 (.leaf [avC190_0, avC190_1, avC190_2, avC190_3, avC190_4, avC190_5, avC190_6, avC190_7, avC190_8, avC190_9, avC190_10, avC190_11, avC190_12, avC190_13, avC190_14]) (.leaf [avC191_0]))))))) (.branch 224 (.branch 208 (.branch 200 (.branch 196 (.branch 194 (.branch 193 (.leaf [avC192_0, avC192_1, avC192_2, avC192_3, avC192_4, avC192_5, avC192_6, avC192_7, avC192_8, avC192_9, avC192_10]) (.leaf [avC193_0, avC193_1, avC193_2, avC193_3, avC193_4, avC193_5, avC193_6, avC193_7, avC193_8, avC193_9])) (.branch 195 (.leaf [avC194_0]) (.leaf []))) (.branch 198 (.branch 197 (.leaf []) (.leaf [avC197_0])) (.branch 199 (.leaf [avC198_0]) (.leaf [])))) (.leaf [])) (.branch 216 (.branch 212 (.branch 210 (.branch 209 (.leaf [avC208_0]) (.leaf [])) (.leaf [])) (.branch 214 (.branch 213 (.leaf [avC212_0]) (.leaf [])) (.leaf []))) (.leaf []))) (.leaf [])))) (.branch 272 (.branch 264 (.leaf []) (.branch 268 (.branch 266 (.leaf []) (.branch 267 (.leaf []) (.leaf [avC267_h]))) (.leaf []))) (.branch 274 (.branch 273 (.leaf [avC272_h]) (.leaf [])) (.leaf [])))
theorem avY188_0 : avCB avRT avTT avCC0 avOPt 106 188 avC188_0 [] = true := by decide +kernel
theorem avY188_1 : avCB avRT avTT avCC0 avOPt 106 188 avC188_1 [] = true := by decide +kernel
theorem avY188_2 : avCB avRT avTT avCC0 avOPt 106 188 avC188_2 [] = true := by decide +kernel
theorem avY188_3 : avCB avRT avTT avCC0 avOPt 194 188 avC188_3 [] = true := by decide +kernel
theorem avY188_4 : avCB avRT avTT avCC0 avOPt 106 188 avC188_4 [] = true := by decide +kernel
theorem avY188_5 : avCB avRT avTT avCC0 avOPt 172 188 avC188_5 [] = true := by decide +kernel
theorem avY188_6 : avCB avRT avTT avCC0 avOPt 128 188 avC188_6 [] = true := by decide +kernel
theorem avY188_7 : avCB avRT avTT avCC0 avOPt 150 188 avC188_7 [] = true := by decide +kernel
theorem avY188_8 : avCB avRT avTT avCC0 avOPt 150 188 avC188_8 [] = true := by decide +kernel
theorem avY188_9 : avCB avRT avTT avCC0 avOPt 128 188 avC188_9 [] = true := by decide +kernel
theorem avY188_10 : avCB avRT avTT avCC0 avOPt 150 188 avC188_10 [] = true := by decide +kernel
theorem avY188_11 : avCB avRT avTT avCC0 avOPt 128 188 avC188_11 [] = true := by decide +kernel
theorem avY188_12 : avCB avRT avTT avCC0 avOPt 106 188 avC188_12 [] = true := by decide +kernel
theorem avY188_13 : avCB avRT avTT avCC0 avOPt 128 188 avC188_13 [] = true := by decide +kernel
theorem avY188_14 : avCB avRT avTT avCC0 avOPt 150 188 avC188_14 [] = true := by decide +kernel
theorem avY188_15 : avCB avRT avTT avCC0 avOPt 106 188 avC188_15 [] = true := by decide +kernel
theorem avY188_16 : avCB avRT avTT avCC0 avOPt 150 188 avC188_16 [] = true := by decide +kernel
theorem avY188_17 : avCB avRT avTT avCC0 avOPt 150 188 avC188_17 [] = true := by decide +kernel
theorem avY188_18 : avCB avRT avTT avCC0 avOPt 150 188 avC188_18 [] = true := by decide +kernel
theorem avY188_19 : avCB avRT avTT avCC0 avOPt 150 188 avC188_19 [] = true := by decide +kernel
theorem avY188_20 : avCB avRT avTT avCC0 avOPt 128 188 avC188_20 [] = true := by decide +kernel
theorem avY188_21 : avCB avRT avTT avCC0 avOPt 106 188 avC188_21 [] = true := by decide +kernel
theorem avY184_0 : avCB avRT avTT avCC0 avOPt 122 184 avC184_0 [(0, ([(2, 51, [], 860), (6, 0, [], 0)], [(0, 600), (0, 600)], [], [(51, ([], 860), ([], 8), 0, 0, [(0, 1)], 0), (51, ([], 860), ([], 7), 0, 0, [(1, 1)], 0)]), ([(0, -2)], 3607)),
  (83, ([(2, 51, [], 860), (6, 0, [], 0)], [(0, 600), (1, 600), (0, 600)], [([(0, 1), (2, -1)], 0)], [(51, ([], 860), ([], 8), 0, 0, [(0, 1)], 0), (51, ([], 860), ([], 7), 0, 0, [(1, 1)], 0), (51, ([], 860), ([], 9), 0, 0, [(2, 1)], 0)]), ([(0, -2)], 2404)),
  (144, ([(2, 51, [], 860), (6, 0, [], 0)], [(0, 600), (1, 600), (0, 600), (-2147483648, 999999)], [([(0, 1), (2, -1)], 0)], [(51, ([], 860), ([], 8), 0, 0, [(0, 1)], 0), (51, ([], 860), ([], 7), 0, 0, [(1, 1)], 0), (51, ([], 860), ([], 9), 0, 0, [(2, 1)], 0), (51, ([], 860), ([], 11), 0, 0, [(3, 1)], 0)]), ([(0, -2)], 1201))] = true := by decide +kernel
theorem avY190_0 : avCB avRT avTT avCC0 avOPt 18 190 avC190_0 [] = true := by decide +kernel
theorem avY190_1 : avCB avRT avTT avCC0 avOPt 18 190 avC190_1 [] = true := by decide +kernel
theorem avY190_2 : avCB avRT avTT avCC0 avOPt 18 190 avC190_2 [] = true := by decide +kernel
theorem avY190_3 : avCB avRT avTT avCC0 avOPt 18 190 avC190_3 [] = true := by decide +kernel
theorem avY190_4 : avCB avRT avTT avCC0 avOPt 18 190 avC190_4 [] = true := by decide +kernel
theorem avY190_5 : avCB avRT avTT avCC0 avOPt 18 190 avC190_5 [] = true := by decide +kernel
theorem avY190_6 : avCB avRT avTT avCC0 avOPt 18 190 avC190_6 [] = true := by decide +kernel
theorem avY190_7 : avCB avRT avTT avCC0 avOPt 18 190 avC190_7 [] = true := by decide +kernel
theorem avY190_8 : avCB avRT avTT avCC0 avOPt 18 190 avC190_8 [] = true := by decide +kernel
theorem avY190_9 : avCB avRT avTT avCC0 avOPt 18 190 avC190_9 [] = true := by decide +kernel
theorem avY190_10 : avCB avRT avTT avCC0 avOPt 18 190 avC190_10 [] = true := by decide +kernel
theorem avY190_11 : avCB avRT avTT avCC0 avOPt 18 190 avC190_11 [] = true := by decide +kernel
theorem avY190_12 : avCB avRT avTT avCC0 avOPt 18 190 avC190_12 [] = true := by decide +kernel
theorem avY190_13 : avCB avRT avTT avCC0 avOPt 18 190 avC190_13 [] = true := by decide +kernel
theorem avY190_14 : avCB avRT avTT avCC0 avOPt 18 190 avC190_14 [] = true := by decide +kernel
theorem avY192_0 : avCB avRT avTT avCC0 avOPt 79 192 avC192_0 [] = true := by decide +kernel
theorem avY192_1 : avCB avRT avTT avCC0 avOPt 79 192 avC192_1 [] = true := by decide +kernel
theorem avY192_2 : avCB avRT avTT avCC0 avOPt 79 192 avC192_2 [] = true := by decide +kernel
theorem avY192_3 : avCB avRT avTT avCC0 avOPt 79 192 avC192_3 [] = true := by decide +kernel
theorem avY192_4 : avCB avRT avTT avCC0 avOPt 79 192 avC192_4 [] = true := by decide +kernel
theorem avY192_5 : avCB avRT avTT avCC0 avOPt 79 192 avC192_5 [] = true := by decide +kernel
theorem avY192_6 : avCB avRT avTT avCC0 avOPt 79 192 avC192_6 [] = true := by decide +kernel
theorem avY192_7 : avCB avRT avTT avCC0 avOPt 79 192 avC192_7 [] = true := by decide +kernel
theorem avY192_8 : avCB avRT avTT avCC0 avOPt 79 192 avC192_8 [] = true := by decide +kernel
theorem avY192_9 : avCB avRT avTT avCC0 avOPt 79 192 avC192_9 [] = true := by decide +kernel
theorem avY192_10 : avCB avRT avTT avCC0 avOPt 79 192 avC192_10 [] = true := by decide +kernel
theorem avY193_0 : avCB avRT avTT avCC0 avOPt 37 193 avC193_0 [] = true := by decide +kernel
theorem avY193_1 : avCB avRT avTT avCC0 avOPt 37 193 avC193_1 [] = true := by decide +kernel
theorem avY193_2 : avCB avRT avTT avCC0 avOPt 37 193 avC193_2 [] = true := by decide +kernel
theorem avY193_3 : avCB avRT avTT avCC0 avOPt 37 193 avC193_3 [] = true := by decide +kernel
theorem avY193_4 : avCB avRT avTT avCC0 avOPt 37 193 avC193_4 [] = true := by decide +kernel
theorem avY193_5 : avCB avRT avTT avCC0 avOPt 37 193 avC193_5 [] = true := by decide +kernel
theorem avY193_6 : avCB avRT avTT avCC0 avOPt 37 193 avC193_6 [] = true := by decide +kernel
theorem avY193_7 : avCB avRT avTT avCC0 avOPt 37 193 avC193_7 [] = true := by decide +kernel
theorem avY193_8 : avCB avRT avTT avCC0 avOPt 37 193 avC193_8 [] = true := by decide +kernel
theorem avY193_9 : avCB avRT avTT avCC0 avOPt 37 193 avC193_9 [] = true := by decide +kernel
theorem avY181_0 : avCB avRT avTT avCC0 avOPt 38 181 avC181_0 [(4, ([(2, 51, [], 860), (0, 0, [(0, 1)], 0), (0, 0, [(1, 1)], 0), (0, 0, [(2, 1)], 0)], [(0, 5), (-2147483648, 2147483647), (0, 12)], [], []), ([(2, -2)], 25))] = true := by decide +kernel
theorem avY85_0 : avCB avRT avTT avCC0 avOPt 61 85 avC85_0 [(2, ([(2, 7, [(3, 1)], 0), (0, 0, [(0, 1)], 0), (0, 0, [(1, 1)], 0), (0, 0, [(2, 1)], 0)], [(0, 1), (-2147483648, 2147483647), (0, 12), (0, 4095)], [], []), ([(2, -2)], 25))] = true := by decide +kernel
theorem avY115_0 : avCB avRT avTT avCC0 avOPt 48 115 avC115_0 [(66, ([(2, 7, [(9, 1)], 0), (2, 7, [(10, 1)], 0), (0, 0, [(0, 1)], 0)], [(0, 12), (0, 12), (0, 1000), (0, 99), (0, 90), (-1, 3), (0, 1), (-1, 3), (-2147483648, 2147483647), (0, 4095), (0, 4095)], [], [(7, ([(9, 1)], 0), ([], 0), 0, 0, [(1, 1)], 0), (7, ([(9, 1)], 0), ([], 1), 0, 0, [(2, 1)], 0), (7, ([(9, 1)], 0), ([], 2), 0, 0, [(3, 1)], 0), (7, ([(9, 1)], 0), ([], 3), 0, 0, [(4, 1)], 0), (7, ([(9, 1)], 0), ([], 4), 0, 0, [(5, 1)], 0), (7, ([(9, 1)], 0), ([], 5), 0, 0, [(6, 1)], 0), (7, ([(9, 1)], 0), ([], 6), 0, 0, [(7, 1)], 0), (7, ([(9, 1)], 0), ([], 7), 0, 0, [(8, 1)], 0)]), ([(0, -2)], 25))] = true := by decide +kernel
theorem avY51_0 : avCB avRT avTT avCC0 avOPt 23 51 avC51_0 [(4, ([(2, 7, [(2, 1)], 0), (0, 0, [(0, 1)], 0), (0, 0, [(1, 1)], 0)], [(-2147483648, 2147483647), (0, 12), (0, 4095)], [], []), ([(1, -2)], 25))] = true := by decide +kernel
theorem avY44_0 : avCB avRT avTT avCC0 avOPt 62 44 avC44_0 [] = true := by decide +kernel
theorem avY43_0 : avCB avRT avTT avCC0 avOPt 110 43 avC43_0 [] = true := by decide +kernel
theorem avY162_0 : avCB avRT avTT avCC0 avOPt 62 162 avC162_0 [(13, ([(2, 18, [(1, 1)], 0), (2, 18, [(2, 1)], 0), (0, 0, [(0, 1)], 0)], [(0, 6), (0, 4095), (0, 4095)], [], []), ([(0, -2)], 13))] = true := by decide +kernel
theorem avY183_0 : avCB avRT avTT avCC0 avOPt 22 183 avC183_0 [(2, ([(2, 51, [], 860), (0, 0, [(0, 1)], 0), (0, 0, [(1, 1)], 0)], [(0, 5), (0, 4)], [], []), ([(1, -2)], 9))] = true := by decide +kernel
theorem avY191_0 : avCB avRT avTT avCC0 avOPt 146 191 avC191_0 [] = true := by decide +kernel
theorem avY194_0 : avCB avRT avTT avCC0 avOPt 128 194 avC194_0 [] = true := by decide +kernel
theorem avY197_0 : avCB avRT avTT avCC0 avOPt 35 197 avC197_0 [] = true := by decide +kernel
theorem avY198_0 : avCB avRT avTT avCC0 avOPt 28 198 avC198_0 [] = true := by decide +kernel
theorem avY208_0 : avCB avRT avTT avCC0 avOPt 137 208 avC208_0 [] = true := by decide +kernel
theorem avY212_0 : avCB avRT avTT avCC0 avOPt 26 212 avC212_0 [] = true := by decide +kernel
theorem avY86_h : avCB avRT avTT avCC0 avOPt 125 86 avC86_h [] = true := by decide +kernel
theorem avY272_h : avCB avRT avTT avCC0 avOPt 28 272 avC272_h [] = true := by decide +kernel
theorem avY168_h : avCB avRT avTT avCC0 avOPt 21 168 avC168_h [] = true := by decide +kernel
theorem avY267_h : avCB avRT avTT avCC0 avOPt 20 267 avC267_h [] = true := by decide +kernel
