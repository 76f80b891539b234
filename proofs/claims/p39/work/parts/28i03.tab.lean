/-! entries -/
set_option maxRecDepth 100000 in
theorem abTq111 : abTrs 111 3 = true := by decide +kernel
set_option maxRecDepth 100000 in
theorem abTq114 : abTrs 114 3 = true := by decide +kernel
set_option maxRecDepth 100000 in
theorem abTq117 : abTrs 117 5 = true := by decide +kernel
set_option maxRecDepth 100000 in
theorem abTq122 : abTrs 122 4 = true := by decide +kernel
set_option maxRecDepth 100000 in
theorem abTq126 : abTrs 126 3 = true := by decide +kernel
set_option maxRecDepth 100000 in
theorem abTq129 : abTrs 129 4 = true := by decide +kernel
set_option maxRecDepth 100000 in
theorem abTq133 : abTrs 133 3 = true := by decide +kernel
set_option maxRecDepth 100000 in
theorem abTq136 : abTrs 136 5 = true := by decide +kernel
set_option maxRecDepth 100000 in
theorem abTq141 : abTrs 141 2 = true := by decide +kernel
set_option maxRecDepth 100000 in
theorem abTq143 : abTrs 143 2 = true := by decide +kernel
set_option maxRecDepth 100000 in
theorem abTq145 : abTrs 145 2 = true := by decide +kernel
set_option maxRecDepth 100000 in
theorem abTq147 : abTrs 147 3 = true := by decide +kernel
