/-! the calls, from the switch on -/
set_option maxRecDepth 100000 in
theorem abV212 : abAll (abEnd 278) (abRun 2500 40 278 (abMe 278).2.2.2.2.2 212 (abL0 7) [] abG0) = true := by decide +kernel
set_option maxRecDepth 100000 in
theorem abV275 : abAll (abEnd 278) (abRun 2500 40 278 (abMe 278).2.2.2.2.2 275 (abL0 7) [] abG0) = true := by decide +kernel
set_option maxRecDepth 100000 in
theorem abV334 : abAll (abEnd 278) (abRun 2500 40 278 (abMe 278).2.2.2.2.2 334 (abL0 7) [] abG0) = true := by decide +kernel
set_option maxRecDepth 100000 in
theorem abV409 : abAll (abEnd 278) (abRun 2500 40 278 (abMe 278).2.2.2.2.2 409 (abL0 7) [] abG0) = true := by decide +kernel
set_option maxRecDepth 100000 in
theorem abV442 : abAll (abEnd 278) (abRun 2500 40 278 (abMe 278).2.2.2.2.2 442 (abL0 7) [] abG0) = true := by decide +kernel
set_option maxRecDepth 100000 in
theorem abV465 : abAll (abEnd 278) (abRun 2500 40 278 (abMe 278).2.2.2.2.2 465 (abL0 7) [] abG0) = true := by decide +kernel
set_option maxRecDepth 100000 in
theorem abV498 : abAll (abEnd 278) (abRun 2500 40 278 (abMe 278).2.2.2.2.2 498 (abL0 7) [] abG0) = true := by decide +kernel
set_option maxRecDepth 100000 in
theorem abV521 : abAll (abEnd 278) (abRun 2500 40 278 (abMe 278).2.2.2.2.2 521 (abL0 7) [] abG0) = true := by decide +kernel
set_option maxRecDepth 100000 in
theorem abV554 : abAll (abEnd 278) (abRun 2500 40 278 (abMe 278).2.2.2.2.2 554 (abL0 7) [] abG0) = true := by decide +kernel
set_option maxRecDepth 100000 in
theorem abV577 : abAll (abEnd 278) (abRun 2500 40 278 (abMe 278).2.2.2.2.2 577 (abL0 7) [] abG0) = true := by decide +kernel
set_option maxRecDepth 100000 in
theorem abV633 : abAll (abEnd 278) (abRun 2500 40 278 (abMe 278).2.2.2.2.2 633 (abL0 7) [] abG0) = true := by decide +kernel
