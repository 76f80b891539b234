/-! runs of contracts -/
theorem avX80_0 : avCB avRT avTT avCCt avOPt 124 80 avC80_0 [] = true := by decide +kernel
theorem avX82_0 : avCB avRT avTT avCCt avOPt 47 82 avC82_0 [] = true := by decide +kernel
theorem avX90_0 : avCB avRT avTT avCCt avOPt 29 90 avC90_0 [] = true := by decide +kernel
theorem avX91_0 : avCB avRT avTT avCCt avOPt 53 91 avC91_0 [] = true := by decide +kernel
theorem avX93_0 : avCB avRT avTT avCCt avOPt 103 93 avC93_0 [] = true := by decide +kernel
theorem avX95_0 : avCB avRT avTT avCCt avOPt 52 95 avC95_0 [] = true := by decide +kernel
