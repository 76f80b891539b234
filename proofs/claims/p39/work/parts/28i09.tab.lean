/-! entries -/
set_option maxRecDepth 100000 in
theorem abTq264 : abTrs 264 1 = true := by decide +kernel
set_option maxRecDepth 100000 in
theorem abTq265 : abTrs 265 3 = true := by decide +kernel
set_option maxRecDepth 100000 in
theorem abTq268 : abTrs 268 2 = true := by decide +kernel
set_option maxRecDepth 100000 in
theorem abTq270 : abTrs 270 6 = true := by decide +kernel
set_option maxRecDepth 100000 in
theorem abTl0 : abTru 276 0 (abMe 276).2.2.2.2.2 = true := by decide +kernel
set_option maxRecDepth 100000 in
theorem abTl1 : abTru 277 0 (abMe 277).2.2.2.2.2 = true := by decide +kernel
set_option maxRecDepth 100000 in
theorem abTm0 : abTrr 278 0 80 (abMe 278).2.2.2.2.2 = true := by decide +kernel
set_option maxRecDepth 100000 in
theorem abTm1 : abTrr 278 80 160 (abMe 278).2.2.2.2.2 = true := by decide +kernel
set_option maxRecDepth 100000 in
theorem abTm2 : abTrr 278 160 240 (abMe 278).2.2.2.2.2 = true := by decide +kernel
set_option maxRecDepth 100000 in
theorem abTm3 : abTrr 278 240 320 (abMe 278).2.2.2.2.2 = true := by decide +kernel
set_option maxRecDepth 100000 in
theorem abTm4 : abTrr 278 320 400 (abMe 278).2.2.2.2.2 = true := by decide +kernel
set_option maxRecDepth 100000 in
theorem abTm5 : abTrr 278 400 480 (abMe 278).2.2.2.2.2 = true := by decide +kernel
