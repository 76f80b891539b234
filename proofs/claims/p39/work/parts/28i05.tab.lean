/-! entries -/
set_option maxRecDepth 100000 in
theorem abTq184 : abTrs 184 1 = true := by decide +kernel
set_option maxRecDepth 100000 in
theorem abTq185 : abTrs 185 2 = true := by decide +kernel
set_option maxRecDepth 100000 in
theorem abTq187 : abTrs 187 1 = true := by decide +kernel
set_option maxRecDepth 100000 in
theorem abTq188 : abTrs 188 3 = true := by decide +kernel
set_option maxRecDepth 100000 in
theorem abTq191 : abTrs 191 2 = true := by decide +kernel
set_option maxRecDepth 100000 in
theorem abTq193 : abTrs 193 2 = true := by decide +kernel
set_option maxRecDepth 100000 in
theorem abTq195 : abTrs 195 1 = true := by decide +kernel
set_option maxRecDepth 100000 in
theorem abTq196 : abTrs 196 1 = true := by decide +kernel
set_option maxRecDepth 100000 in
theorem abTq197 : abTrs 197 3 = true := by decide +kernel
set_option maxRecDepth 100000 in
theorem abTq200 : abTrs 200 1 = true := by decide +kernel
set_option maxRecDepth 100000 in
theorem abTq201 : abTrs 201 3 = true := by decide +kernel
set_option maxRecDepth 100000 in
theorem abTq204 : abTrs 204 1 = true := by decide +kernel
