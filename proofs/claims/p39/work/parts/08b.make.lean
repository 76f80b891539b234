/-! THE CONSTRUCTORS, RUN -/
def abLz : List abV := [(5, 0, 1), (4, 0, 0), (4, 860, 0), (0, 9223372036854775808, 9223372036854775808)]
set_option maxRecDepth 100000 in
theorem abCm : abAll (fun x => abQf x (18, abLz, [], abG0)) (abRun 2500 40 276 (abMe 276).2.2.2.2.2 0 [(5, 0, 1), abJ, abJ, abJ] [] (.leaf (99, 0, .leaf abJ), 0, abFull, 0, 0)) = true := by decide +kernel
