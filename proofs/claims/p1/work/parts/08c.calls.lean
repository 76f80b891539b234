/-! THE CALLS, RUN -/
noncomputable def abEnd (k : Nat) (x : abF) : Bool := abIf (Nat.beq ((abMe k).2.2.2.2.2.get x.1).1 83) (abIf (abQl abQv x.2.2.1 [(0, 9223372036854775809, 9223372036854775809)]) (abIf (Nat.ble x.2.2.2.2.2.2.1 600000) (Nat.ble x.2.2.2.2.2.2.2 7302249) false) false) false
def abPcs : List Nat := [212, 275, 298, 311, 334, 409, 442, 465, 498, 521, 554, 577, 610, 633, 676, 735, 794, 843, 886, 929, 972, 1005, 1048, 1091, 1114, 1137, 1170, 1193, 1216, 1229, 1272, 1295, 1308, 1341, 1374, 1407, 1430, 1453, 1476, 1519, 1592]
noncomputable def abMem (l : List Nat) (n : Nat) : Bool := List.rec false (fun h _ ih => abIf (Nat.beq h n) true ih) l
theorem abMem_ok {n : Nat} : ∀ {l : List Nat}, abMem l n = true → n ∈ l
  | [], h => by cases h
  | x :: l, h => by
    have h' : abIf (Nat.beq x n) true (abMem l n) = true := h
    cases q : Nat.beq x n with
    | true => rw [abBeq q]; exact List.mem_cons_self
    | false => rw [abIf_f q] at h'; exact List.mem_cons_of_mem _ (abMem_ok h')
noncomputable def abEnd7 (x : abF) : Bool := abIf (Nat.beq ((abMe 277).2.2.2.2.2.get x.1).1 85) (abIf (abMem abPcs x.1) (abIf (abQl abQv x.2.1 (abL0 7)) (abIf (abQl abQv x.2.2.1 []) (abQg x.2.2.2 abG0) false) false) false) (abEnd 277 x)
set_option maxRecDepth 100000 in
theorem abU0 : abAll (abEnd 277) (abRun 2500 40 277 (abMe 277).2.2.2.2.2 18 (abL0 0) [] abG0) = true := by decide +kernel
set_option maxRecDepth 100000 in
theorem abU1 : abAll (abEnd 277) (abRun 2500 40 277 (abMe 277).2.2.2.2.2 18 (abL0 1) [] abG0) = true := by decide +kernel
set_option maxRecDepth 100000 in
theorem abU2 : abAll (abEnd 277) (abRun 2500 40 277 (abMe 277).2.2.2.2.2 18 (abL0 2) [] abG0) = true := by decide +kernel
set_option maxRecDepth 100000 in
theorem abU3 : abAll (abEnd 277) (abRun 2500 40 277 (abMe 277).2.2.2.2.2 18 (abL0 3) [] abG0) = true := by decide +kernel
set_option maxRecDepth 100000 in
theorem abU4 : abAll (abEnd 277) (abRun 2500 40 277 (abMe 277).2.2.2.2.2 18 (abL0 4) [] abG0) = true := by decide +kernel
set_option maxRecDepth 100000 in
theorem abU5 : abAll (abEnd 277) (abRun 2500 40 277 (abMe 277).2.2.2.2.2 18 (abL0 5) [] abG0) = true := by decide +kernel
set_option maxRecDepth 100000 in
theorem abU6 : abAll (abEnd 277) (abRun 2500 40 277 (abMe 277).2.2.2.2.2 18 (abL0 6) [] abG0) = true := by decide +kernel
set_option maxRecDepth 100000 in
theorem abU7 : abAll abEnd7 (abRun 2500 40 277 (abMe 277).2.2.2.2.2 18 (abL0 7) [] abG0) = true := by decide +kernel
