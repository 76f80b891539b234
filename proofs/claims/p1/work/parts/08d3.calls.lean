/-! keep, by cases of its number -/
def abFkp (lo hi : Nat) : abE := [(9223372034707292160, 9223372039002259455), (lo, hi), (9223372034707292160, 9223372039002259455), (9223372034707292160, 9223372039002259455), (9223372034707292160, 9223372039002259455), (9223372034707292160, 9223372039002259455), (9223372034707292160, 9223372039002259455)]
theorem abFkp_ok {rh : Nat → Int} {lo hi : Nat} (h : abEok rh abFull) (h1 : (lo : Int) ≤ rh 1 + abB) (h2 : rh 1 + abB ≤ (hi : Int)) : abEok rh (abFkp lo hi)
  | 0, q, hk => h 0 q hk
  | 1, q, hk => by
    cases hk
    exact ⟨h1, h2⟩
  | 2, q, hk => h 2 q hk
  | 3, q, hk => h 3 q hk
  | 4, q, hk => h 4 q hk
  | 5, q, hk => h 5 q hk
  | 6, q, hk => h 6 q hk
  | _ + 7, _, hk => by cases hk
set_option maxRecDepth 1000000 in
theorem abKpa : abAll (abEnd 278) (abRun 2500 40 278 (abMe 278).2.2.2.2.2 1430 (abL0 7) [] (abSe abG0 (abFkp 9223372034707292160 9223372036854775807))) = true := by decide +kernel
set_option maxRecDepth 1000000 in
theorem abKpb : abAll (abEnd 278) (abRun 30000 40 278 (abMe 278).2.2.2.2.2 1430 (abL0 7) [] (abSe abG0 (abFkp 9223372036854775808 9223372036854775808))) = true := by decide +kernel
set_option maxRecDepth 1000000 in
theorem abKpc : abAll (abEnd 278) (abRun 30000 40 278 (abMe 278).2.2.2.2.2 1430 (abL0 7) [] (abSe abG0 (abFkp 9223372036854775809 9223372036854775809))) = true := by decide +kernel
set_option maxRecDepth 1000000 in
theorem abKpd : abAll (abEnd 278) (abRun 30000 40 278 (abMe 278).2.2.2.2.2 1430 (abL0 7) [] (abSe abG0 (abFkp 9223372036854775810 9223372036854775810))) = true := by decide +kernel
set_option maxRecDepth 1000000 in
theorem abKpe : abAll (abEnd 278) (abRun 2500 40 278 (abMe 278).2.2.2.2.2 1430 (abL0 7) [] (abSe abG0 (abFkp 9223372036854775811 9223372039002259455))) = true := by decide +kernel
theorem abV1430 (rh : Nat → Int) (h : abEok rh abFull) : ∃ (n : Nat) (env : abE), abEok rh env ∧ abAll (abEnd 278) (abRun n 40 278 (abMe 278).2.2.2.2.2 1430 (abL0 7) [] (abSe abG0 env)) = true := by
  have h1 := h 1 (9223372034707292160, 9223372039002259455) rfl
  have hB : abB = 9223372036854775808 := rfl
  simp only at h1
  rcases (show rh 1 ≤ -1 ∨ rh 1 = 0 ∨ rh 1 = 1 ∨ rh 1 = 2 ∨ 3 ≤ rh 1 by omega) with q | q | q | q | q
  · exact ⟨2500, abFkp 9223372034707292160 9223372036854775807, abFkp_ok h (by omega) (by omega), abKpa⟩
  · exact ⟨30000, abFkp 9223372036854775808 9223372036854775808, abFkp_ok h (by omega) (by omega), abKpb⟩
  · exact ⟨30000, abFkp 9223372036854775809 9223372036854775809, abFkp_ok h (by omega) (by omega), abKpc⟩
  · exact ⟨30000, abFkp 9223372036854775810 9223372036854775810, abFkp_ok h (by omega) (by omega), abKpd⟩
  · exact ⟨2500, abFkp 9223372036854775811 9223372039002259455, abFkp_ok h (by omega) (by omega), abKpe⟩
