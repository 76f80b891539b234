/-! entries -/
set_option maxRecDepth 100000 in
theorem abTq205 : abTrs 205 2 = true := by decide +kernel
set_option maxRecDepth 100000 in
theorem abTq207 : abTrs 207 4 = true := by decide +kernel
set_option maxRecDepth 100000 in
theorem abTq211 : abTrs 211 2 = true := by decide +kernel
set_option maxRecDepth 100000 in
theorem abTq213 : abTrs 213 1 = true := by decide +kernel
set_option maxRecDepth 100000 in
theorem abTq214 : abTrs 214 1 = true := by decide +kernel
set_option maxRecDepth 100000 in
theorem abTq215 : abTrs 215 1 = true := by decide +kernel
set_option maxRecDepth 100000 in
theorem abTq216 : abTrs 216 2 = true := by decide +kernel
set_option maxRecDepth 100000 in
theorem abTq218 : abTrs 218 1 = true := by decide +kernel
set_option maxRecDepth 100000 in
theorem abTq219 : abTrs 219 1 = true := by decide +kernel
set_option maxRecDepth 100000 in
theorem abTq220 : abTrs 220 2 = true := by decide +kernel
set_option maxRecDepth 100000 in
theorem abTq222 : abTrs 222 2 = true := by decide +kernel
set_option maxRecDepth 100000 in
theorem abTq224 : abTrs 224 2 = true := by decide +kernel
