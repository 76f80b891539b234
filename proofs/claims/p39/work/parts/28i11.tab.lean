/-! entries -/
set_option maxRecDepth 100000 in
theorem abTm18 : abTrr 278 1440 1520 (abMe 278).2.2.2.2.2 = true := by decide +kernel
set_option maxRecDepth 100000 in
theorem abTm19 : abTrr 278 1520 1600 (abMe 278).2.2.2.2.2 = true := by decide +kernel
set_option maxRecDepth 100000 in
theorem abTmZ : abTru 278 1600 (abMe 278).2.2.2.2.2 = true := by decide +kernel
