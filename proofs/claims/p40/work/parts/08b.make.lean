/-! THE CONSTRUCTORS, RUN -/
set_option maxRecDepth 100000 in
theorem abC0 : abAll (fun x => abQf x (18, abL0 0, [], abG0)) (abRun 2500 40 276 (abMe 276).2.2.2.2.2 0 [(5, 0, 0), abJ, abJ, abJ] [] (.leaf (99, 0, .leaf abJ), 0, abFull, 0, 0)) = true := by decide +kernel
set_option maxRecDepth 100000 in
theorem abC1 : abAll (fun x => abQf x (18, abL0 1, [], abG0)) (abRun 2500 40 276 (abMe 276).2.2.2.2.2 0 [(5, 1, 0), abJ, abJ, abJ] [] (.leaf (99, 0, .leaf abJ), 0, abFull, 0, 0)) = true := by decide +kernel
set_option maxRecDepth 100000 in
theorem abC2 : abAll (fun x => abQf x (18, abL0 2, [], abG0)) (abRun 2500 40 276 (abMe 276).2.2.2.2.2 0 [(5, 2, 0), abJ, abJ, abJ] [] (.leaf (99, 0, .leaf abJ), 0, abFull, 0, 0)) = true := by decide +kernel
set_option maxRecDepth 100000 in
theorem abC3 : abAll (fun x => abQf x (18, abL0 3, [], abG0)) (abRun 2500 40 276 (abMe 276).2.2.2.2.2 0 [(5, 3, 0), abJ, abJ, abJ] [] (.leaf (99, 0, .leaf abJ), 0, abFull, 0, 0)) = true := by decide +kernel
set_option maxRecDepth 100000 in
theorem abC4 : abAll (fun x => abQf x (18, abL0 4, [], abG0)) (abRun 2500 40 276 (abMe 276).2.2.2.2.2 0 [(5, 4, 0), abJ, abJ, abJ] [] (.leaf (99, 0, .leaf abJ), 0, abFull, 0, 0)) = true := by decide +kernel
set_option maxRecDepth 100000 in
theorem abC5 : abAll (fun x => abQf x (18, abL0 5, [], abG0)) (abRun 2500 40 276 (abMe 276).2.2.2.2.2 0 [(5, 5, 0), abJ, abJ, abJ] [] (.leaf (99, 0, .leaf abJ), 0, abFull, 0, 0)) = true := by decide +kernel
set_option maxRecDepth 100000 in
theorem abC6 : abAll (fun x => abQf x (18, abL0 6, [], abG0)) (abRun 2500 40 276 (abMe 276).2.2.2.2.2 0 [(5, 6, 0), abJ, abJ, abJ] [] (.leaf (99, 0, .leaf abJ), 0, abFull, 0, 0)) = true := by decide +kernel
set_option maxRecDepth 100000 in
theorem abC7 : abAll (fun x => abQf x (18, abL0 7, [], abG0)) (abRun 2500 40 276 (abMe 276).2.2.2.2.2 0 [(5, 7, 0), abJ, abJ, abJ] [] (.leaf (99, 0, .leaf abJ), 0, abFull, 0, 0)) = true := by decide +kernel
