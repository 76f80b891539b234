/-! the runs of a contract, all in one -/
noncomputable def avLe5 (l : List avV) : Bool := List.rec true (fun v _ ih => abIf (Nat.ble v.1 5) ih false) l
theorem avLe5_ok : ∀ {l : List avV}, avLe5 l = true → ∀ v ∈ l, v.1 ≤ 5
  | [], _, v, hv => by cases hv
  | w :: l, h, v, hv => by
    obtain ⟨h1, h2⟩ := abIf_and (show abIf (Nat.ble w.1 5) (avLe5 l) false = true from h)
    rcases List.mem_cons.mp hv with rfl | hv
    · exact abBle h1
    · exact avLe5_ok h2 v hv
noncomputable def avCBc (RT : Lean.RArray avRg) (TT : Nat → Lean.RArray abEy) (CC : Lean.RArray (List avCon)) (OP : Lean.RArray avPo) (n q : Nat) (c : avCon) (C0 : List avCut) (C : List avCut) : Bool :=
  List.rec true (fun x _ ih => abIf (avShOk x.2.1) (abIf (avSc x.2.1.2.1.length x.2.2.1) (abIf (avRun RT TT CC OP n C0 (some x.2.2) true c.2.2.2.2 q x.1 x.2.1.1 [] (avSt0 x.2.1) (avKc c.2.2.1)) ih false) false) false) C
noncomputable def avCB (RT : Lean.RArray avRg) (TT : Nat → Lean.RArray abEy) (CC : Lean.RArray (List avCon)) (OP : Lean.RArray avPo) (n q : Nat) (c : avCon) (C : List avCut) : Bool :=
  abIf (avShOk c.2.1) (abIf (avLe5 c.2.1.1) (abIf (Nat.ble (avSm c.2.1.1) (abMe q).1.2.2.1) (abIf (avRun RT TT CC OP n C none true c.2.2.2.2 q 0 (avEn c.2.1.1 (abMe q).1.2.2.1) [] (avSt0 c.2.1) (avKc c.2.2.1)) (avCBc RT TT CC OP n q c C C) false) false) false) false
theorem avCBc_ok {RT : Lean.RArray avRg} {TT : Nat → Lean.RArray abEy} {CC : Lean.RArray (List avCon)} {OP : Lean.RArray avPo} {n q : Nat} {c : avCon} {C0 : List avCut} : ∀ {C : List avCut}, avCBc RT TT CC OP n q c C0 C = true → ∀ x ∈ C, avShOk x.2.1 = true ∧ avSc x.2.1.2.1.length x.2.2.1 = true ∧ avRun RT TT CC OP n C0 (some x.2.2) true c.2.2.2.2 q x.1 x.2.1.1 [] (avSt0 x.2.1) (avKc c.2.2.1) = true
  | [], _, x, hx => by cases hx
  | y :: C, h, x, hx => by
    obtain ⟨h1, h2⟩ := abIf_and (show abIf (avShOk y.2.1) (abIf (avSc y.2.1.2.1.length y.2.2.1) (abIf (avRun RT TT CC OP n C0 (some y.2.2) true c.2.2.2.2 q y.1 y.2.1.1 [] (avSt0 y.2.1) (avKc c.2.2.1)) (avCBc RT TT CC OP n q c C0 C) false) false) false = true from h)
    obtain ⟨h3, h4⟩ := abIf_and h2
    obtain ⟨h5, h6⟩ := abIf_and h4
    rcases List.mem_cons.mp hx with rfl | hx
    · exact ⟨h1, h3, h5⟩
    · exact avCBc_ok h6 x hx
theorem avCB_ok {RT : Lean.RArray avRg} {TT : Nat → Lean.RArray abEy} {CC : Lean.RArray (List avCon)} {OP : Lean.RArray avPo} {n q : Nat} {c : avCon} {C : List avCut} (h : avCB RT TT CC OP n q c C = true) : avConOk RT TT CC OP q c := by
  obtain ⟨h1, h2⟩ := abIf_and h
  obtain ⟨h3, h4⟩ := abIf_and h2
  obtain ⟨h5, h6⟩ := abIf_and h4
  obtain ⟨h7, h8⟩ := abIf_and h6
  exact ⟨n, C, h1, avLe5_ok h3, abBle h5, h7, avCBc_ok h8⟩
