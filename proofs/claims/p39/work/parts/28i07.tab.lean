/-! entries -/
set_option maxRecDepth 100000 in
theorem abTq226 : abTrs 226 1 = true := by decide +kernel
set_option maxRecDepth 100000 in
theorem abTq227 : abTrs 227 1 = true := by decide +kernel
set_option maxRecDepth 100000 in
theorem abTq228 : abTrs 228 1 = true := by decide +kernel
set_option maxRecDepth 100000 in
theorem abTq229 : abTrs 229 1 = true := by decide +kernel
set_option maxRecDepth 100000 in
theorem abTq230 : abTrs 230 2 = true := by decide +kernel
set_option maxRecDepth 100000 in
theorem abTq232 : abTrs 232 1 = true := by decide +kernel
set_option maxRecDepth 100000 in
theorem abTq233 : abTrs 233 1 = true := by decide +kernel
set_option maxRecDepth 100000 in
theorem abTq234 : abTrs 234 2 = true := by decide +kernel
set_option maxRecDepth 100000 in
theorem abTq236 : abTrs 236 1 = true := by decide +kernel
set_option maxRecDepth 100000 in
theorem abTq237 : abTrs 237 1 = true := by decide +kernel
set_option maxRecDepth 100000 in
theorem abTq238 : abTrs 238 1 = true := by decide +kernel
set_option maxRecDepth 100000 in
theorem abTq239 : abTrs 239 1 = true := by decide +kernel
