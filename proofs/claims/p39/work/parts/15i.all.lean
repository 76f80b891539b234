/-! all contracts -/
theorem avCn_all {D : va_G} {z sb : Nat} {RT : Lean.RArray avRg} {RG : avRJ} {TT : Nat → Lean.RArray abEy} {CC : Lean.RArray (List avCon)} {OP : Lean.RArray avPo} (hT : abTabs) (hTT : avTabs RT RG TT OP) (hTZ : avTabZ TT)
    (hc : ∀ q, q < abNM → ∀ c ∈ CC.get q, ((abMe q).2.2.1 = 0 ∧ (abMe q).2.2.2.1 = 0) ∧ avConOk RT TT CC OP q c) : ∀ N, avCn D z sb RT RG CC N
  | 0 => by
    intro l q c as vs ws rh s0 K hq hm hn h1 h2 hvs h5 hsm hso hkn
    omega
  | N + 1 => by
    have IH := avCn_all (D := D) (z := z) (sb := sb) hT hTT hTZ hc N
    intro l q c as vs ws rh s0 K hq hm hn h1 h2 hvs h5 hsm hso hkn
    obtain ⟨h0, h3⟩ := hc q hq c hm
    exact avCon_ok hT (fun n => avRun_ok hT hTT hTZ IH n) hq h0 (by omega) h3 h1 h2 hvs hso hkn
