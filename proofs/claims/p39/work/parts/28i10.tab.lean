/-! entries -/
set_option maxRecDepth 100000 in
theorem abTm6 : abTrr 278 480 560 (abMe 278).2.2.2.2.2 = true := by decide +kernel
set_option maxRecDepth 100000 in
theorem abTm7 : abTrr 278 560 640 (abMe 278).2.2.2.2.2 = true := by decide +kernel
set_option maxRecDepth 100000 in
theorem abTm8 : abTrr 278 640 720 (abMe 278).2.2.2.2.2 = true := by decide +kernel
set_option maxRecDepth 100000 in
theorem abTm9 : abTrr 278 720 800 (abMe 278).2.2.2.2.2 = true := by decide +kernel
set_option maxRecDepth 100000 in
theorem abTm10 : abTrr 278 800 880 (abMe 278).2.2.2.2.2 = true := by decide +kernel
set_option maxRecDepth 100000 in
theorem abTm11 : abTrr 278 880 960 (abMe 278).2.2.2.2.2 = true := by decide +kernel
set_option maxRecDepth 100000 in
theorem abTm12 : abTrr 278 960 1040 (abMe 278).2.2.2.2.2 = true := by decide +kernel
set_option maxRecDepth 100000 in
theorem abTm13 : abTrr 278 1040 1120 (abMe 278).2.2.2.2.2 = true := by decide +kernel
set_option maxRecDepth 100000 in
theorem abTm14 : abTrr 278 1120 1200 (abMe 278).2.2.2.2.2 = true := by decide +kernel
set_option maxRecDepth 100000 in
theorem abTm15 : abTrr 278 1200 1280 (abMe 278).2.2.2.2.2 = true := by decide +kernel
set_option maxRecDepth 100000 in
theorem abTm16 : abTrr 278 1280 1360 (abMe 278).2.2.2.2.2 = true := by decide +kernel
set_option maxRecDepth 100000 in
theorem abTm17 : abTrr 278 1360 1440 (abMe 278).2.2.2.2.2 = true := by decide +kernel
