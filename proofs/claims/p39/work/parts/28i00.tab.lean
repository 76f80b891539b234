/-! entries -/
set_option maxRecDepth 100000 in
theorem abTq0 : abTrs 0 2 = true := by decide +kernel
set_option maxRecDepth 100000 in
theorem abTq2 : abTrs 2 2 = true := by decide +kernel
set_option maxRecDepth 100000 in
theorem abTq4 : abTrs 4 4 = true := by decide +kernel
set_option maxRecDepth 100000 in
theorem abTq8 : abTrs 8 6 = true := by decide +kernel
set_option maxRecDepth 100000 in
theorem abTq14 : abTrs 14 4 = true := by decide +kernel
set_option maxRecDepth 100000 in
theorem abTq18 : abTrs 18 4 = true := by decide +kernel
set_option maxRecDepth 100000 in
theorem abTq22 : abTrs 22 1 = true := by decide +kernel
set_option maxRecDepth 100000 in
theorem abTq23 : abTrs 23 4 = true := by decide +kernel
set_option maxRecDepth 100000 in
theorem abTq27 : abTrs 27 3 = true := by decide +kernel
set_option maxRecDepth 100000 in
theorem abTq30 : abTrs 30 4 = true := by decide +kernel
set_option maxRecDepth 100000 in
theorem abTq34 : abTrs 34 3 = true := by decide +kernel
set_option maxRecDepth 100000 in
theorem abTq37 : abTrs 37 2 = true := by decide +kernel
