/-! test -/
theorem abX1 : plainName (abNm 269).cls = true := by decide +kernel
theorem abX2 : abLi lw_tbl 599 = some (Jvm.Cond.code (abNm 269) (abBy 269) (abMe 269).1.2.2.1 (abRtT 269)) := by decide +kernel
theorem abX3 : abLi lw_tbl 97 = some (Jvm.Cond.initialized (abNm 269).cls) := by decide +kernel
theorem abX4 : ((parseMethodDescriptor (abNm 269).desc).map (fun d => d.parameters.length) = some (abMe 269).2.1) := by decide +kernel
theorem abX5 : abMkb 270 862 97 = true := by decide +kernel
theorem abX6 : abMkb 271 865 97 = true := by decide +kernel
theorem abX7 : abMkb 272 897 97 = true := by decide +kernel
theorem abX8 : abMkb 273 1051 103 = true := by decide +kernel
theorem abX9 : abMkb 274 1117 97 = true := by decide +kernel
theorem abX10 : abMkb 275 1758 97 = true := by decide +kernel
theorem abX11 : abMkb 268 1903 96 = true := by decide +kernel
