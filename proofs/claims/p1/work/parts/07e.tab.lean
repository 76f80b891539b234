set_option maxRecDepth 100000 in
theorem abTa0 : abTrs 0 22 = true := by decide +kernel
set_option maxRecDepth 100000 in
theorem abTa22 : abTrs 22 19 = true := by decide +kernel
set_option maxRecDepth 100000 in
theorem abTa41 : abTrs 41 22 = true := by decide +kernel
set_option maxRecDepth 100000 in
theorem abTa63 : abTrs 63 18 = true := by decide +kernel
set_option maxRecDepth 100000 in
theorem abTa81 : abTrs 81 24 = true := by decide +kernel
set_option maxRecDepth 100000 in
theorem abTa105 : abTrs 105 20 = true := by decide +kernel
set_option maxRecDepth 100000 in
theorem abTa125 : abTrs 125 22 = true := by decide +kernel
set_option maxRecDepth 100000 in
theorem abTa147 : abTrs 147 24 = true := by decide +kernel
set_option maxRecDepth 100000 in
theorem abTa171 : abTrs 171 13 = true := by decide +kernel
set_option maxRecDepth 100000 in
theorem abTa184 : abTrs 184 12 = true := by decide +kernel
set_option maxRecDepth 100000 in
theorem abTa196 : abTrs 196 12 = true := by decide +kernel
set_option maxRecDepth 100000 in
theorem abTa208 : abTrs 208 11 = true := by decide +kernel
set_option maxRecDepth 100000 in
theorem abTa219 : abTrs 219 10 = true := by decide +kernel
set_option maxRecDepth 100000 in
theorem abTa229 : abTrs 229 10 = true := by decide +kernel
set_option maxRecDepth 100000 in
theorem abTa239 : abTrs 239 14 = true := by decide +kernel
set_option maxRecDepth 100000 in
theorem abTa253 : abTrs 253 14 = true := by decide +kernel
set_option maxRecDepth 100000 in
theorem abTa267 : abTrs 267 9 = true := by decide +kernel
set_option maxRecDepth 100000 in
theorem abTl0 : abTru 276 0 (abMe 276).2.2.2.2.2 = true := by decide +kernel
set_option maxRecDepth 100000 in
theorem abTl1 : abTru 277 0 (abMe 277).2.2.2.2.2 = true := by decide +kernel
set_option maxRecDepth 100000 in
theorem abTm0 : abTrr 278 0 300 (abMe 278).2.2.2.2.2 = true := by decide +kernel
set_option maxRecDepth 100000 in
theorem abTm1 : abTrr 278 300 600 (abMe 278).2.2.2.2.2 = true := by decide +kernel
set_option maxRecDepth 100000 in
theorem abTm2 : abTrr 278 600 900 (abMe 278).2.2.2.2.2 = true := by decide +kernel
set_option maxRecDepth 100000 in
theorem abTm3 : abTrr 278 900 1200 (abMe 278).2.2.2.2.2 = true := by decide +kernel
set_option maxRecDepth 100000 in
theorem abTm4 : abTrr 278 1200 1500 (abMe 278).2.2.2.2.2 = true := by decide +kernel
set_option maxRecDepth 100000 in
theorem abTm5 : abTru 278 1500 (abMe 278).2.2.2.2.2 = true := by decide +kernel
