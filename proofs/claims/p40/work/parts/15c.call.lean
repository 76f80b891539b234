/-! calls: what the frame can't see; a call run inline -/
theorem avBlind {D : va_G} {z : Nat} {RT : Lean.RArray avRg} {RG : Nat → Nat} {ws : va_W} {vs : List Value} : FrameBlind (va_Pc vs (avPre D z RT RG ws)) := fun a U gg mk q => by
  obtain ⟨q0, ⟨⟨tys, q1, q2⟩, q3, q4⟩, q5, q6⟩ := q
  exact ⟨q0, ⟨⟨tys, va_K.moved (u := U) (U := U.calling gg mk a) (Vm.Alike.refl U.vm) q1, q2⟩, q3, q4⟩, q5, ⟨fun q hq => va_Nw.same rfl rfl (q6.1 q hq), fun C hC => va_AO.moved (u := U) (U := U.calling gg mk a) (Vm.Alike.refl U.vm) (q6.2 C hC)⟩⟩
