/-! the calls, from the switch on -/
set_option maxRecDepth 100000 in
theorem abV311 : abAll (abEnd 278) (abRun 2500 40 278 (abMe 278).2.2.2.2.2 311 (abL0 7) [] abG0) = true := by decide +kernel
set_option maxRecDepth 100000 in
theorem abV610 : abAll (abEnd 278) (abRun 2500 40 278 (abMe 278).2.2.2.2.2 610 (abL0 7) [] abG0) = true := by decide +kernel
set_option maxRecDepth 100000 in
theorem abV676 : abAll (abEnd 278) (abRun 2500 40 278 (abMe 278).2.2.2.2.2 676 (abL0 7) [] abG0) = true := by decide +kernel
set_option maxRecDepth 100000 in
theorem abV735 : abAll (abEnd 278) (abRun 2500 40 278 (abMe 278).2.2.2.2.2 735 (abL0 7) [] abG0) = true := by decide +kernel
set_option maxRecDepth 100000 in
theorem abV794 : abAll (abEnd 278) (abRun 2500 40 278 (abMe 278).2.2.2.2.2 794 (abL0 7) [] abG0) = true := by decide +kernel
set_option maxRecDepth 100000 in
theorem abV843 : abAll (abEnd 278) (abRun 2500 40 278 (abMe 278).2.2.2.2.2 843 (abL0 7) [] abG0) = true := by decide +kernel
set_option maxRecDepth 100000 in
theorem abV886 : abAll (abEnd 278) (abRun 2500 40 278 (abMe 278).2.2.2.2.2 886 (abL0 7) [] abG0) = true := by decide +kernel
set_option maxRecDepth 100000 in
theorem abV929 : abAll (abEnd 278) (abRun 2500 40 278 (abMe 278).2.2.2.2.2 929 (abL0 7) [] abG0) = true := by decide +kernel
set_option maxRecDepth 100000 in
theorem abV972 : abAll (abEnd 278) (abRun 2500 40 278 (abMe 278).2.2.2.2.2 972 (abL0 7) [] abG0) = true := by decide +kernel
set_option maxRecDepth 100000 in
theorem abV1005 : abAll (abEnd 278) (abRun 2500 40 278 (abMe 278).2.2.2.2.2 1005 (abL0 7) [] abG0) = true := by decide +kernel
set_option maxRecDepth 100000 in
theorem abV1048 : abAll (abEnd 278) (abRun 2500 40 278 (abMe 278).2.2.2.2.2 1048 (abL0 7) [] abG0) = true := by decide +kernel
set_option maxRecDepth 100000 in
theorem abV1091 : abAll (abEnd 278) (abRun 2500 40 278 (abMe 278).2.2.2.2.2 1091 (abL0 7) [] abG0) = true := by decide +kernel
set_option maxRecDepth 100000 in
theorem abV1114 : abAll (abEnd 278) (abRun 2500 40 278 (abMe 278).2.2.2.2.2 1114 (abL0 7) [] abG0) = true := by decide +kernel
set_option maxRecDepth 100000 in
theorem abV1137 : abAll (abEnd 278) (abRun 2500 40 278 (abMe 278).2.2.2.2.2 1137 (abL0 7) [] abG0) = true := by decide +kernel
set_option maxRecDepth 100000 in
theorem abV1170 : abAll (abEnd 278) (abRun 2500 40 278 (abMe 278).2.2.2.2.2 1170 (abL0 7) [] abG0) = true := by decide +kernel
set_option maxRecDepth 100000 in
theorem abV1193 : abAll (abEnd 278) (abRun 2500 40 278 (abMe 278).2.2.2.2.2 1193 (abL0 7) [] abG0) = true := by decide +kernel
set_option maxRecDepth 100000 in
theorem abV1216 : abAll (abEnd 278) (abRun 2500 40 278 (abMe 278).2.2.2.2.2 1216 (abL0 7) [] abG0) = true := by decide +kernel
set_option maxRecDepth 100000 in
theorem abV1229 : abAll (abEnd 278) (abRun 2500 40 278 (abMe 278).2.2.2.2.2 1229 (abL0 7) [] abG0) = true := by decide +kernel
set_option maxRecDepth 100000 in
theorem abV1272 : abAll (abEnd 278) (abRun 2500 40 278 (abMe 278).2.2.2.2.2 1272 (abL0 7) [] abG0) = true := by decide +kernel
set_option maxRecDepth 100000 in
theorem abV1295 : abAll (abEnd 278) (abRun 2500 40 278 (abMe 278).2.2.2.2.2 1295 (abL0 7) [] abG0) = true := by decide +kernel
set_option maxRecDepth 100000 in
theorem abV1308 : abAll (abEnd 278) (abRun 2500 40 278 (abMe 278).2.2.2.2.2 1308 (abL0 7) [] abG0) = true := by decide +kernel
set_option maxRecDepth 100000 in
theorem abV1341 : abAll (abEnd 278) (abRun 2500 40 278 (abMe 278).2.2.2.2.2 1341 (abL0 7) [] abG0) = true := by decide +kernel
set_option maxRecDepth 100000 in
theorem abV1374 : abAll (abEnd 278) (abRun 2500 40 278 (abMe 278).2.2.2.2.2 1374 (abL0 7) [] abG0) = true := by decide +kernel
set_option maxRecDepth 100000 in
theorem abV1407 : abAll (abEnd 278) (abRun 2500 40 278 (abMe 278).2.2.2.2.2 1407 (abL0 7) [] abG0) = true := by decide +kernel
set_option maxRecDepth 100000 in
theorem abV1453 : abAll (abEnd 278) (abRun 2500 40 278 (abMe 278).2.2.2.2.2 1453 (abL0 7) [] abG0) = true := by decide +kernel
set_option maxRecDepth 100000 in
theorem abV1476 : abAll (abEnd 278) (abRun 2500 40 278 (abMe 278).2.2.2.2.2 1476 (abL0 7) [] abG0) = true := by decide +kernel
set_option maxRecDepth 100000 in
theorem abV1519 : abAll (abEnd 278) (abRun 2500 40 278 (abMe 278).2.2.2.2.2 1519 (abL0 7) [] abG0) = true := by decide +kernel
set_option maxRecDepth 100000 in
theorem abV1592 : abAll (abEnd 278) (abRun 2500 40 278 (abMe 278).2.2.2.2.2 1592 (abL0 7) [] abG0) = true := by decide +kernel
