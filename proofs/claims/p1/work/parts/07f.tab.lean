/-! the tables, together -/
theorem abMa (q : Nat) (h : q < abNM) : abMok q := by
  have h0 : q < 276 := h
  by_cases h0 : q < 46
  · exact abMks_ok abMa0 q (by omega) (by simp only [List.length_cons, List.length_nil]; omega)
  by_cases h46 : q < 92
  · exact abMks_ok abMa46 q (by omega) (by simp only [List.length_cons, List.length_nil]; omega)
  by_cases h92 : q < 138
  · exact abMks_ok abMa92 q (by omega) (by simp only [List.length_cons, List.length_nil]; omega)
  by_cases h138 : q < 184
  · exact abMks_ok abMa138 q (by omega) (by simp only [List.length_cons, List.length_nil]; omega)
  by_cases h184 : q < 230
  · exact abMks_ok abMa184 q (by omega) (by simp only [List.length_cons, List.length_nil]; omega)
  by_cases h230 : q < 276
  · exact abMks_ok abMa230 q (by omega) (by simp only [List.length_cons, List.length_nil]; omega)
  omega
theorem abTa (k pc : Nat) (h : k < abNM) : abEtOk k ((abMe k).2.2.2.2.2.get pc) ∧ ((abMe k).2.2.2.2.2.get pc).1 < 88 := by
  have h0 : k < 276 := h
  by_cases h0 : k < 22
  · exact abTru_ok (abTrs_ok abTa0 k (by omega) (by omega)) pc (Nat.zero_le _)
  by_cases h22 : k < 41
  · exact abTru_ok (abTrs_ok abTa22 k (by omega) (by omega)) pc (Nat.zero_le _)
  by_cases h41 : k < 63
  · exact abTru_ok (abTrs_ok abTa41 k (by omega) (by omega)) pc (Nat.zero_le _)
  by_cases h63 : k < 81
  · exact abTru_ok (abTrs_ok abTa63 k (by omega) (by omega)) pc (Nat.zero_le _)
  by_cases h81 : k < 105
  · exact abTru_ok (abTrs_ok abTa81 k (by omega) (by omega)) pc (Nat.zero_le _)
  by_cases h105 : k < 125
  · exact abTru_ok (abTrs_ok abTa105 k (by omega) (by omega)) pc (Nat.zero_le _)
  by_cases h125 : k < 147
  · exact abTru_ok (abTrs_ok abTa125 k (by omega) (by omega)) pc (Nat.zero_le _)
  by_cases h147 : k < 171
  · exact abTru_ok (abTrs_ok abTa147 k (by omega) (by omega)) pc (Nat.zero_le _)
  by_cases h171 : k < 184
  · exact abTru_ok (abTrs_ok abTa171 k (by omega) (by omega)) pc (Nat.zero_le _)
  by_cases h184 : k < 196
  · exact abTru_ok (abTrs_ok abTa184 k (by omega) (by omega)) pc (Nat.zero_le _)
  by_cases h196 : k < 208
  · exact abTru_ok (abTrs_ok abTa196 k (by omega) (by omega)) pc (Nat.zero_le _)
  by_cases h208 : k < 219
  · exact abTru_ok (abTrs_ok abTa208 k (by omega) (by omega)) pc (Nat.zero_le _)
  by_cases h219 : k < 229
  · exact abTru_ok (abTrs_ok abTa219 k (by omega) (by omega)) pc (Nat.zero_le _)
  by_cases h229 : k < 239
  · exact abTru_ok (abTrs_ok abTa229 k (by omega) (by omega)) pc (Nat.zero_le _)
  by_cases h239 : k < 253
  · exact abTru_ok (abTrs_ok abTa239 k (by omega) (by omega)) pc (Nat.zero_le _)
  by_cases h253 : k < 267
  · exact abTru_ok (abTrs_ok abTa253 k (by omega) (by omega)) pc (Nat.zero_le _)
  by_cases h267 : k < 276
  · exact abTru_ok (abTrs_ok abTa267 k (by omega) (by omega)) pc (Nat.zero_le _)
  omega
theorem abTm (pc : Nat) : abEtOk 278 ((abMe 278).2.2.2.2.2.get pc) ∧ ((abMe 278).2.2.2.2.2.get pc).1 < 88 := by
  generalize hx : ((abMe 278).2.2.2.2.2.get pc).2.1 = x
  by_cases h0 : x < 300
  · exact abTrr_ok abTm0 pc (by omega) (by omega)
  by_cases h1 : x < 600
  · exact abTrr_ok abTm1 pc (by omega) (by omega)
  by_cases h2 : x < 900
  · exact abTrr_ok abTm2 pc (by omega) (by omega)
  by_cases h3 : x < 1200
  · exact abTrr_ok abTm3 pc (by omega) (by omega)
  by_cases h4 : x < 1500
  · exact abTrr_ok abTm4 pc (by omega) (by omega)
  exact abTru_ok abTm5 pc (by omega)
theorem abTabsOk : abTabs := by
  refine ⟨abMa, abGood, fun k pc hk hp => ?_⟩
  have hk' : k < 276 + 3 := hk
  by_cases h : k < abNM
  · exact abTa k pc h
  · have h' : ¬ k < 276 := h
    by_cases h1 : k = 276
    · subst h1
      exact abTru_ok abTl0 pc (Nat.zero_le _)
    by_cases h2 : k = 277
    · subst h2
      exact abTru_ok abTl1 pc (Nat.zero_le _)
    have h3 : k = 278 := by omega
    subst h3
    exact abTm pc
