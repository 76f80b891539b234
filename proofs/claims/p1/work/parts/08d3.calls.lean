/-! the calls, from the switch on -/
set_option maxRecDepth 1000000 in
theorem abV1430 : abAll (abEnd 278) (abRun 30000 40 278 (abMe 278).2.2.2.2.2 1430 (abL0 7) [] abG0) = true := by sorry
