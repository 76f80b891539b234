/-! the run is sound -/
theorem avRun_ok {D : va_G} {z sb : Nat} {RT : Lean.RArray avRg} {RG : avRJ} {TT : Nat → Lean.RArray abEy} {CC : Lean.RArray (List avCon)} {OP : Lean.RArray avPo} {N : Nat} (hT : abTabs) (hTT : avTabs RT RG TT OP) (hTZ : avTabZ TT) (hN : avCn D z sb RT RG CC N) : ∀ n, avRuns D z sb RT RG TT CC OP N n
  | 0 => by
    intro w0 r0 p l ev R s m args below meth c cc cs Q k d C M fst pc ls st q K hF hk hd hroom hC2 hKo h
    cases h
  | n + 1 => by
    have IH := avRun_ok (sb := sb) hT hTT hTZ hN n
    intro w0 r0 p l ev R s m args below meth c cc cs Q k d C M fst pc ls st q K hF hk hd hroom hC2 hKo h
    have h0 : avArr M pc ls st q (abIf (Nat.beq ((TT k).get pc).2.1 pc) (abIf (Nat.ble 78 ((TT k).get pc).1) (abIf (Nat.ble ((TT k).get pc).1 81) (avCall RT TT CC (avRun RT TT CC OP n) C M d k ((TT k).get pc) pc ls st q K)
      (abIf (Nat.ble ((TT k).get pc).1 84) (avRet ((TT k).get pc) st q K) ((OP.get ((TT k).get pc).1) (fun pc ls st s => avRun RT TT CC OP n C M false d k pc ls st s K) ((TT k).get pc) pc ls st q)))
      ((OP.get ((TT k).get pc).1) (fun pc ls st s => avRun RT TT CC OP n C M false d k pc ls st s K) ((TT k).get pc) pc ls st q)) false) (abIf fst [] C) = true := h
    have hC3 : avCo2 D z sb RT RG w0 r0 p l ev R s m args below meth c cc cs Q (abIf fst [] C) M := by
      cases fst with
      | false => exact hC2
      | true => exact ⟨hC2.1, fun x hx => (by cases hx)⟩
    refine avArr_ok (fun hgo => ?_) hC3 h0
    obtain ⟨g1, g2⟩ := abIf_and hgo
    have hpc := abBeq g1
    obtain ⟨t1, t2⟩ := hTT k pc hk hpc
    have ns : avNs D z sb RT RG w0 r0 p l ev R s m args below meth c cc cs Q (fun pc ls st s => avRun RT TT CC OP n C M false d k pc ls st s K) := fun pc' ls' st' q' hh => IH w0 r0 p l ev R s m args below meth c cc cs Q k d C M false pc' ls' st' q' K hF hk hd hroom hC2 hKo hh
    have plain : (((TT k).get pc).1 ≤ 77 ∨ 85 ≤ ((TT k).get pc).1) → (OP.get ((TT k).get pc).1) (fun pc ls st s => avRun RT TT CC OP n C M false d k pc ls st s K) ((TT k).get pc) pc ls st q = true → avW D z sb RT RG w0 r0 p l ev R s m args below meth c cc cs Q pc ls st q := fun ho hh => t1 ho D z sb w0 r0 p l ev R s m args below meth c cc cs Q d _ pc ls st q hF hpc ns hroom hh
    cases q1 : Nat.ble 78 ((TT k).get pc).1 with
    | false =>
      rw [q1, abIf_f rfl] at g2
      exact plain (Or.inl (by have := abBle_f q1; omega)) g2
    | true =>
      rw [q1, abIf_t rfl] at g2
      have a1 := abBle q1
      cases q2 : Nat.ble ((TT k).get pc).1 81 with
      | true =>
        rw [q2, abIf_t rfl] at g2
        have a2 := abBle q2
        exact avCall_ok hT IH hN hF hk hd hroom hC2 hKo (t2 a1 (by omega)) hpc (hTZ k pc hk hpc a1 a2) g2
      | false =>
        rw [q2, abIf_f rfl] at g2
        cases q3 : Nat.ble ((TT k).get pc).1 84 with
        | false =>
          rw [q3, abIf_f rfl] at g2
          exact plain (Or.inr (by have := abBle_f q3; omega)) g2
        | true =>
          rw [q3, abIf_t rfl] at g2
          obtain ⟨o, m1, m2⟩ := avRet_ok g2
          exact hKo pc ls st q o hpc (t2 a1 (abBle q3)) m1 m2
