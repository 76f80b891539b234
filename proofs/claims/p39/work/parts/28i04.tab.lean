/-! entries -/
set_option maxRecDepth 100000 in
theorem abTq150 : abTrs 150 4 = true := by decide +kernel
set_option maxRecDepth 100000 in
theorem abTq154 : abTrs 154 3 = true := by decide +kernel
set_option maxRecDepth 100000 in
theorem abTq157 : abTrs 157 5 = true := by decide +kernel
set_option maxRecDepth 100000 in
theorem abTq162 : abTrs 162 3 = true := by decide +kernel
set_option maxRecDepth 100000 in
theorem abTq165 : abTrs 165 4 = true := by decide +kernel
set_option maxRecDepth 100000 in
theorem abTq169 : abTrs 169 2 = true := by decide +kernel
set_option maxRecDepth 100000 in
theorem abTq171 : abTrs 171 1 = true := by decide +kernel
set_option maxRecDepth 100000 in
theorem abTq172 : abTrs 172 5 = true := by decide +kernel
set_option maxRecDepth 100000 in
theorem abTq177 : abTrs 177 2 = true := by decide +kernel
set_option maxRecDepth 100000 in
theorem abTq179 : abTrs 179 1 = true := by decide +kernel
set_option maxRecDepth 100000 in
theorem abTq180 : abTrs 180 1 = true := by decide +kernel
set_option maxRecDepth 100000 in
theorem abTq181 : abTrs 181 3 = true := by decide +kernel
