/-! calls: what the frame can't see; a call run inline -/
theorem avStr.same {RG : avRJ} {z : Nat} {s U : State} (hv : U.vm = s.vm) (hh : U.heap = s.heap) (h : avStr RG z s) : avStr RG z U := by
  obtain ⟨⟨adV, h1⟩, h2, h3, h4⟩ := h
  have ha : s.vm.Alike U.vm := by rw [hv]; exact Vm.Alike.refl s.vm
  refine ⟨⟨adV, fun i hi => ?_⟩, fun i q hq => vk_R.same hv (h2 i q hq), by rw [hh]; exact va_Z.moved ha h3, by rw [hh]; exact va_Zq.moved ha h4⟩
  obtain ⟨a1, a2, a3, f, a4⟩ := h1 i hi
  rw [hh]
  exact ⟨va_O.moved ha a1, va_OF.moved ha a2, va_OF.moved ha a3, f, va_T.moved ha a4⟩
theorem avBlind {D : va_G} {z : Nat} {RT : Lean.RArray avRg} {RG : avRJ} {ws : va_W} {vs : List Value} : FrameBlind (va_Pc vs (avPre D z RT RG ws)) := fun a U gg mk q => by
  obtain ⟨q0, ⟨⟨tys, q1, q2, q7, q8, q9⟩, q3, q4⟩, q5, q6⟩ := q
  exact ⟨q0, ⟨⟨tys, va_K.moved (u := U) (U := U.calling gg mk a) (Vm.Alike.refl U.vm) q1, q2, q7, q8, avStr.same rfl rfl q9⟩, q3, q4⟩, q5, ⟨fun q hq => va_Nw.same rfl rfl (q6.1 q hq), fun C hC => va_AO.moved (u := U) (U := U.calling gg mk a) (Vm.Alike.refl U.vm) (q6.2 C hC)⟩⟩
/-- the run is sound up to n steps -/
def avRuns (D : va_G) (z sb : Nat) (RT : Lean.RArray avRg) (RG : avRJ) (TT : Nat → Lean.RArray abEy) (CC : Lean.RArray (List avCon)) (OP : Lean.RArray avPo) (N n : Nat) : Prop :=
  ∀ (w0 : va_W) (r0 : afR) (p : Program) (l : Launch) (ev : Env) (R : Room) (s : State) (m : MethodId) (args : Array Value) (below : List Frame) (meth : Method) (c : Code) (cc cs : Nat) (Q : State → Prop) (k d : Nat) (C : List avCut) (M : Option afF) (fst : Bool) (pc : Nat) (ls st : List avV) (q : avS) (K : Option avV → avS → Bool), avFr z k d p R s m args meth c → k < abNM → d ≤ N → cc ≤ R.cells ∧ cs ≤ R.slots → avCo2 D z sb RT RG w0 r0 p l ev R s m args below meth c cc cs Q C M → avKo D z sb RT RG TT w0 r0 p l ev R s m args below meth c cc cs Q k K → avRun RT TT CC OP n C M fst d k pc ls st q K = true → avW D z sb RT RG w0 r0 p l ev R s m args below meth c cc cs Q pc ls st q
theorem avPush_ok {RG : avRJ} {u : va_W} {sb : Nat} {rh : afR} {rr : List avV} {rx : List Value} {o : Option avV} {rv : Option Value} (h : avSok RG u sb rh rr rx) (hv : avRv RG u sb rh o rv) : avSok RG u sb rh (avPush rr o) (rv.toList ++ rx) := by
  cases o with
  | none =>
    have e : rv = none := hv
    subst e
    exact h
  | some v =>
    obtain ⟨x, rfl, g⟩ := hv
    exact ⟨x, rx, rfl, g, h⟩
/-- behind a call -/
theorem avAf_ok {D : va_G} {z sb : Nat} {RT : Lean.RArray avRg} {RG : avRJ} {w0 : va_W} {r0 : afR} {p : Program} {l : Launch} {ev : Env} {R : Room} {s : State} {m : MethodId} {args : Array Value} {below : List Frame} {meth : Method} {c : Code} {cc cs : Nat} {Q : State → Prop} {pc : Nat} {ls rr : List avV} {q : avS} {K' : Option avV → avS → Bool} {H : Heap} {locs : List Loc} {ws : va_W} {A : Array Slot} {vs rx xs : List Value} {rh : afR}
    (hn : ∀ (o : Option avV) (q' : avS), K' o q' = true → avW D z sb RT RG w0 r0 p l ev R s m args below meth c cc cs Q (pc + 3) ls (avPush rr o) q')
    (hH : avHok D z sb RT RG rh s ws H locs q) (hX : avXw w0 r0 ws rh) (hL : avLok RG ws sb rh ls c.maxLocals A) (hrx : avSok RG ws sb rh rr rx)
    (hrun : va_Run p l ev R s m args below meth c H locs cc cs 0 0 (F0 m pc A xs) rx (avPost D z sb RT RG rh ws K' vs.toArray) (fun a => z ≤ a)) : W p l ev R s m args below meth c H locs cc cs Q (F0 m pc A xs) := by
  refine abCallx hrun (fun v s0 t L h0 hal hLf hpost => ?_)
  obtain ⟨⟨rh', o, q', u, rv, hoc, hk, hle, hXu, hrv, ⟨⟨tys', hK', hC', h4'⟩, hP', hD'⟩, hso', hkn'⟩, hFr⟩ := hpost
  cases hoc
  obtain ⟨⟨tys, hK, hC, h4⟩, hP, hD, hSS, hso, hkn⟩ := hH
  refine hn o q' hk rh' t.heap (locs ++ L) u A _ ⟨⟨tys', va_K.moved hal.symm hK', hC', h4'.1, h4'.2.1, h4.2.2⟩, hP', hD', ?_, hso', hkn'⟩ ⟨hX.1.tr hXu, hX.2.tr hle⟩ (hL.mono hXu hle) (avPush_ok (hrx.mono hXu hle) hrv)
  rw [← h0] at hSS
  refine ⟨Nat.le_trans hSS.1 hFr.1, fun j h1 h2 => ?_, fun j hj => ?_⟩
  · rw [hFr.2 j (Nat.lt_of_lt_of_le h1 hSS.1) h2]
    exact hSS.2.1 j h1 h2
  · rcases List.mem_append.mp hj with w | w
    · exact hSS.2.2 j w
    · exact hLf j w
/-- a method run inline: its contract for this one call -/
theorem avGi_ok {D : va_G} {z sb : Nat} {RT : Lean.RArray avRg} {RG : avRJ} {TT : Nat → Lean.RArray abEy} {CC : Lean.RArray (List avCon)} {OP : Lean.RArray avPo} {N n : Nat} (IH : avRuns D z sb RT RG TT CC OP N n) {q d : Nat} (hq : q < abNM) (hdN : d ≤ N) (hm : abMok q) (hc0 : (abMe q).2.2.1 = 0 ∧ (abMe q).2.2.2.1 = 0) {as : List avV} {vs : List Value} {ws : va_W} {rh : afR} {s0 : avS} {K : Option avV → avS → Bool} (l : Launch)
    (h : avRun RT TT CC OP n [] none false d q 0 (avEn as (abMe q).1.2.2.1) [] s0 K = true) (hvs : avSok RG ws sb rh as vs) (h5 : ∀ v ∈ as, v.1 ≤ 5) (hsm : avSm as ≤ (abMe q).1.2.2.1) (hso : afSo rh s0.1) (hkn : ∀ k ∈ s0.2, avKn RG ws sb rh k) : Met l (abNm q) (abWs q) (abRoom q (d + 5)) (va_Pc vs (avPre D z RT RG ws)) (avPost D z sb RT RG rh ws K) 0 0 (fun a => z ≤ a) := by
  refine avMet (TT := TT) hq hm hc0 (afLe.rf rh) l ?_ hvs h5 hsm hso hkn
  intro p ev R s m args below meth c Q hFr hKo
  have hc2 : avCo2 D z sb RT RG ws rh p l ev R s m args below meth c 0 0 Q [] none := ⟨fun g hg => (by cases hg), fun x hx => (by cases hx)⟩
  exact IH ws rh p l ev R s m args below meth c 0 0 Q q d [] none false 0 _ _ s0 K hFr hq hdN ⟨Nat.zero_le _, Nat.zero_le _⟩ hc2 hKo h
