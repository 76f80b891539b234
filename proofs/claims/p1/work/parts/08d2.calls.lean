/-! the calls, from the switch on -/
set_option maxRecDepth 1000000 in
theorem abV298 : abAll (abEnd 278) (abRun 10000 40 278 (abMe 278).2.2.2.2.2 298 (abL0 7) [] abG0) = true := by decide +kernel
