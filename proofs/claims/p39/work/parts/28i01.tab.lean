/-! entries -/
set_option maxRecDepth 100000 in
theorem abTq39 : abTrs 39 3 = true := by decide +kernel
set_option maxRecDepth 100000 in
theorem abTq42 : abTrs 42 1 = true := by decide +kernel
set_option maxRecDepth 100000 in
theorem abTq43 : abTrs 43 1 = true := by decide +kernel
set_option maxRecDepth 100000 in
theorem abTq44 : abTrs 44 3 = true := by decide +kernel
set_option maxRecDepth 100000 in
theorem abTq47 : abTrs 47 2 = true := by decide +kernel
set_option maxRecDepth 100000 in
theorem abTq49 : abTrs 49 5 = true := by decide +kernel
set_option maxRecDepth 100000 in
theorem abTq54 : abTrs 54 3 = true := by decide +kernel
set_option maxRecDepth 100000 in
theorem abTq57 : abTrs 57 6 = true := by decide +kernel
set_option maxRecDepth 100000 in
theorem abTq63 : abTrs 63 4 = true := by decide +kernel
set_option maxRecDepth 100000 in
theorem abTq67 : abTrs 67 3 = true := by decide +kernel
set_option maxRecDepth 100000 in
theorem abTq70 : abTrs 70 2 = true := by decide +kernel
set_option maxRecDepth 100000 in
theorem abTq72 : abTrs 72 1 = true := by decide +kernel
