/-! entries -/
set_option maxRecDepth 100000 in
theorem abTq240 : abTrs 240 4 = true := by decide +kernel
set_option maxRecDepth 100000 in
theorem abTq244 : abTrs 244 2 = true := by decide +kernel
set_option maxRecDepth 100000 in
theorem abTq246 : abTrs 246 2 = true := by decide +kernel
set_option maxRecDepth 100000 in
theorem abTq248 : abTrs 248 2 = true := by decide +kernel
set_option maxRecDepth 100000 in
theorem abTq250 : abTrs 250 1 = true := by decide +kernel
set_option maxRecDepth 100000 in
theorem abTq251 : abTrs 251 3 = true := by decide +kernel
set_option maxRecDepth 100000 in
theorem abTq254 : abTrs 254 3 = true := by decide +kernel
set_option maxRecDepth 100000 in
theorem abTq257 : abTrs 257 1 = true := by decide +kernel
set_option maxRecDepth 100000 in
theorem abTq258 : abTrs 258 2 = true := by decide +kernel
set_option maxRecDepth 100000 in
theorem abTq260 : abTrs 260 1 = true := by decide +kernel
set_option maxRecDepth 100000 in
theorem abTq261 : abTrs 261 2 = true := by decide +kernel
set_option maxRecDepth 100000 in
theorem abTq263 : abTrs 263 1 = true := by decide +kernel
