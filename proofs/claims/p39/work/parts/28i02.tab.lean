/-! entries -/
set_option maxRecDepth 100000 in
theorem abTq73 : abTrs 73 3 = true := by decide +kernel
set_option maxRecDepth 100000 in
theorem abTq76 : abTrs 76 4 = true := by decide +kernel
set_option maxRecDepth 100000 in
theorem abTq80 : abTrs 80 1 = true := by decide +kernel
set_option maxRecDepth 100000 in
theorem abTq81 : abTrs 81 3 = true := by decide +kernel
set_option maxRecDepth 100000 in
theorem abTq84 : abTrs 84 3 = true := by decide +kernel
set_option maxRecDepth 100000 in
theorem abTq87 : abTrs 87 3 = true := by decide +kernel
set_option maxRecDepth 100000 in
theorem abTq90 : abTrs 90 4 = true := by decide +kernel
set_option maxRecDepth 100000 in
theorem abTq94 : abTrs 94 6 = true := by decide +kernel
set_option maxRecDepth 100000 in
theorem abTq100 : abTrs 100 5 = true := by decide +kernel
set_option maxRecDepth 100000 in
theorem abTq105 : abTrs 105 1 = true := by decide +kernel
set_option maxRecDepth 100000 in
theorem abTq106 : abTrs 106 2 = true := by decide +kernel
set_option maxRecDepth 100000 in
theorem abTq108 : abTrs 108 3 = true := by decide +kernel
