/-! length and charAt of a text -/
theorem avS95 {RT : Lean.RArray avRg} {RG : avRJ} {k : Nat} {e : abEy} (hd : decode (abBy k) e.2.1 = .ok (.invokevirtual e.2.2.2.2.1, 3)) (hl : Jvm.Cond.methodLink (abOwn k) e.2.2.2.2.1 ⟨"java/lang/String", "length", "()I"⟩ ∈ abTw) (hm : Jvm.Cond.instanceMethod ⟨"java/lang/String", "length", "()I"⟩ ∈ abTw) : avOkE RT RG k e avOsl := by
  sorry
theorem avS96 {RT : Lean.RArray avRg} {RG : avRJ} {k : Nat} {e : abEy} (hd : decode (abBy k) e.2.1 = .ok (.invokevirtual e.2.2.2.2.1, 3)) (hl : Jvm.Cond.methodLink (abOwn k) e.2.2.2.2.1 ⟨"java/lang/String", "charAt", "(I)C"⟩ ∈ abTw) (hm : Jvm.Cond.instanceMethod ⟨"java/lang/String", "charAt", "(I)C"⟩ ∈ abTw) : avOkE RT RG k e avOsc := by
  sorry
