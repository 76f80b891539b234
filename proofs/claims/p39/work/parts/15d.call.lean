/-! calls from a fuller stack -/
section AVR
variable {p : Program} {l : Launch} {e : Env} {R : Room} {s : State} {m : MethodId} {args : Array Value} {below : List Frame} {meth : Method} {c : Code} {H : Heap} {locs : List Loc} {cells slots : Nat}
variable {y : MethodName} {bytes cc : ByteArray} {maxL nL mc ms n index W : Nat} {ret : Option FieldType} {ws : List Cond} {rm : Room} {Pc : Array Value → State → Prop} {Qc : Array Value → State → Outcome → State → Prop} {free : Addr → Prop} {Ts : List Cond} {own C : String} {b : Addr} {As rest : List Value} {g : JFrame}
theorem avRunV (S : CallFix p m c cc nL s args Ts own) (hM : Met l y ws rm Pc Qc mc ms free) (cw : CallW R s args own C index y bytes maxL ret ws rm mc ms n) (hlo : W + (maxL + 11) + rm.locals ≤ R.locals) (hp : PreV s H C b Pc As)
    (hg : g.method = m) (hn : As.length = n) (hsize : g.locals.size = nL) (hstack : g.stack = As.reverse ++ .ref b :: rest) (hW : 2 * g.monitorRoom + (rest.map fun v => v.category).sum ≤ W) (hdg : decode cc g.pc = .ok (.invokevirtual index, 3)) (hf : cells + mc ≤ R.cells ∧ slots + ms ≤ R.slots) :
    va_Run p l e R s m args below meth c H locs cells slots mc ms g rest (Qc (Value.ref b :: As).toArray) (free) := by
  obtain ⟨⟨hrc, hrs, hfr, -, hws, hcw, hcode, hini, hy, hlen, hl⟩, hin, hse⟩ := cw
  have hK : Back l R p e below s args y 3 W (PreOf R mc ms Pc) (PostOf Qc mc ms free) := back_of (bytes := bytes) (maxL := maxL) (ret := ret) hM hp.1 hrc hrs hfr hlo hws hcw (fun a' U hW => word_at hW (Or.inl (by first | rfl | simp [Cond.onTables, Cond.keeps, Cond.steady])) hini)
  obtain ⟨hx, hb, hml, ho, -⟩ := S
  obtain ⟨-, ⟨cellB, hcB, hoB, hclB⟩, hPc⟩ := hp
  intro T hT X
  obtain ⟨v, vm₁, ⟨U', l2, c2, s2⟩, hW₁, X', ⟨g', mk, t, L, e1, e2, hq, h1, hL, h2, h3⟩, st⟩ := callV X hx (C := C) (bytes := bytes) (maxL := maxL) (ret := ret) ho hl hin hse hcode hy hK (by rw [hT]; exact hcB) hoB hclB hg (hsize.trans hml.symm) (argsL := As) (rest := rest) (fun sig h => hn.trans (hlen sig h)) hstack hW (by rw [hb]; exact hdg)
    (fun vm₁ hW₁ => ⟨hf.1, hf.2, hPc (T.setVm vm₁) hT hW₁⟩)
  dsimp only [Pt.U, Pt.locs, Pt.cells, Pt.slots] at X' e1 e2 h1 h2 h3 st
  subst h1; subst h2; subst h3
  exact ⟨v, (T.setVm vm₁).calling g' mk (Value.ref b :: As).toArray, t, U', L, hT, X', hL, e1, e2, hq, st⟩
theorem avRunS (S : CallFix p m c cc nL s args Ts own) (hM : Met l y ws rm Pc Qc mc ms free) (cw : CallB R s args own index y bytes maxL ret ws rm mc ms n ∧ (Cond.static y).before args s = true) (hlo : W + (maxL + 11) + rm.locals ≤ R.locals) (hp : PreS s H Pc As)
    (hg : g.method = m) (hn : As.length = n) (hsize : g.locals.size = nL) (hstack : g.stack = As.reverse ++ rest) (hW : 2 * g.monitorRoom + (rest.map fun v => v.category).sum ≤ W) (hdg : decode cc g.pc = .ok (.invokestatic index, 3)) (hf : cells + mc ≤ R.cells ∧ slots + ms ≤ R.slots) :
    va_Run p l e R s m args below meth c H locs cells slots mc ms g rest (Qc As.toArray) (free) := by
  obtain ⟨⟨hrc, hrs, hfr, -, hws, hcw, hcode, hini, hy, hlen, hl⟩, hstt⟩ := cw
  have hK : Back l R p e below s args y 3 W (PreOf R mc ms Pc) (PostOf Qc mc ms free) := back_of (bytes := bytes) (maxL := maxL) (ret := ret) hM hp.1 hrc hrs hfr hlo hws hcw (fun a' U hW => word_at hW (Or.inl (by first | rfl | simp [Cond.onTables, Cond.keeps, Cond.steady])) hini)
  obtain ⟨hx, hb, hml, ho, -⟩ := S
  intro T hT X
  obtain ⟨v, vm₁, ⟨U', l2, c2, s2⟩, hW₁, X', ⟨g', mk, t, L, e1, e2, hq, h1, hL, h2, h3⟩, st⟩ := callS X hx (bytes := bytes) (maxL := maxL) (ret := ret) ho hl hstt hini hcode hy hK hg (hsize.trans hml.symm) (argsL := As) (rest := rest) (fun sig h => hn.trans (hlen sig h)) hstack hW (by rw [hb]; exact hdg)
    (fun vm₁ hW₁ => ⟨hf.1, hf.2, hp.2 (T.setVm vm₁) hT hW₁⟩)
  dsimp only [Pt.U, Pt.locs, Pt.cells, Pt.slots] at X' e1 e2 h1 h2 h3 st
  subst h1; subst h2; subst h3
  exact ⟨v, (T.setVm vm₁).calling g' mk As.toArray, t, U', L, hT, X', hL, e1, e2, hq, st⟩
end AVR
/-! calls -/
theorem avRf_some {v : avV} {k : Nat → afF → Bool} (h : avRf v k = true) : v.1 = 2 ∧ k v.2.1 v.2.2 = true := by
  obtain ⟨h1, h2⟩ := abIf_and h
  exact ⟨abBeq h1, h2⟩
/-- the contracts that go less than N deep hold -/
def avCn (D : va_G) (z sb : Nat) (RT : Lean.RArray avRg) (RG : avRJ) (CC : Lean.RArray (List avCon)) (N : Nat) : Prop :=
  ∀ (l : Launch) (q : Nat) (c : avCon) (as : List avV) (vs : List Value) (ws : va_W) (rh : afR) (s0 : avS) (K : Option avV → avS → Bool), q < abNM → c ∈ CC.get q → c.2.2.2.2 < N → avFit s0 (avTheta s0 c.2.1 as) c.2.1 as = true → avAns c.2.2.1 (s0.1, avLeft c.2.2.2.1 s0.2) K = true → avSok RG ws sb rh as vs → (∀ v ∈ as, v.1 ≤ 5) → avSm as ≤ (abMe q).1.2.2.1 → afSo rh s0.1 → (∀ k ∈ s0.2, avKn RG ws sb rh k) → Met l (abNm q) (abWs q) (abRoom q (c.2.2.2.2 + 5)) (va_Pc vs (avPre D z RT RG ws)) (avPost D z sb RT RG rh ws K) 0 0 (fun a => z ≤ a)
theorem avTry_ok {d : Nat} {s : avS} {as : List avV} {K : Option avV → avS → Bool} : ∀ {l : List avCon}, avTry d s as K l = true → ∃ c ∈ l, c.2.2.2.2 + 1 ≤ d ∧ avFit s (avTheta s c.2.1 as) c.2.1 as = true ∧ avAns c.2.2.1 (s.1, avLeft c.2.2.2.1 s.2) K = true
  | [], h => by cases h
  | c :: l, h => by
    have h' : abIf (Nat.ble (c.2.2.2.2 + 1) d) (abIf (avFit s (avTheta s c.2.1 as) c.2.1 as) (avAns c.2.2.1 (s.1, avLeft c.2.2.2.1 s.2) K) (avTry d s as K l)) (avTry d s as K l) = true := h
    have rest : avTry d s as K l = true → ∃ c' ∈ c :: l, c'.2.2.2.2 + 1 ≤ d ∧ avFit s (avTheta s c'.2.1 as) c'.2.1 as = true ∧ avAns c'.2.2.1 (s.1, avLeft c'.2.2.2.1 s.2) K = true := fun hh => by
      obtain ⟨c', m, r⟩ := avTry_ok hh
      exact ⟨c', List.mem_cons_of_mem _ m, r⟩
    cases q1 : Nat.ble (c.2.2.2.2 + 1) d with
    | false => rw [q1, abIf_f rfl] at h'; exact rest h'
    | true =>
      rw [q1, abIf_t rfl] at h'
      cases q2 : avFit s (avTheta s c.2.1 as) c.2.1 as with
      | false => rw [q2, abIf_f rfl] at h'; exact rest h'
      | true =>
        rw [q2, abIf_t rfl] at h'
        exact ⟨c, List.mem_cons_self, abBle q1, q2, h'⟩
/-- the contract of a call, run inline or looked up -/
theorem avGo_ok {D : va_G} {z sb : Nat} {RT : Lean.RArray avRg} {RG : avRJ} {TT : Nat → Lean.RArray abEy} {CC : Lean.RArray (List avCon)} {OP : Lean.RArray avPo} {N n : Nat} (IH : avRuns D z sb RT RG TT CC OP N n) (hN : avCn D z sb RT RG CC N) {C : List avCut} {M : Option afF} {k q d pc : Nat} (hd : d ≤ N) (hq : q < abNM) (hm : abMok q) (hc0 : (abMe q).2.2.1 = 0 ∧ (abMe q).2.2.2.1 = 0) {ls as rr : List avV} {vs : List Value} {ws : va_W} {rh : afR} {s0 : avS} {K : Option avV → avS → Bool} (l : Launch)
    (h : avGo TT CC (avRun RT TT CC OP n) C M d k q pc ls as rr s0 K = true) (hvs : avSok RG ws sb rh as vs) (h5 : ∀ v ∈ as, v.1 ≤ 5) (hso : afSo rh s0.1) (hkn : ∀ k ∈ s0.2, avKn RG ws sb rh k) :
    avSm rr + (abMe q).1.2.2.1 ≤ 49 ∧ ∃ d' : Nat, d' + 1 ≤ d ∧ Met l (abNm q) (abWs q) (abRoom q (d' + 5)) (va_Pc vs (avPre D z RT RG ws)) (avPost D z sb RT RG rh ws (fun o s => avRun RT TT CC OP n C M false d k (pc + 3) ls (avPush rr o) s K)) 0 0 (fun a => z ≤ a) := by
  obtain ⟨h1, h2⟩ := abIf_and h
  obtain ⟨h3, h4⟩ := abIf_and h2
  refine ⟨abBle h1, ?_⟩
  generalize hcc : CC.get q = cl at h4
  cases cl with
  | nil =>
    cases d with
    | zero => cases h4
    | succ d' => exact ⟨d', Nat.le_refl _, avGi_ok IH hq (by omega) hm hc0 l h4 hvs h5 (abBle h3) hso hkn⟩
  | cons c0 cl =>
    have h6 : avTry d s0 as (fun o s => avRun RT TT CC OP n C M false d k (pc + 3) ls (avPush rr o) s K) (c0 :: cl) = true := h4
    obtain ⟨c, m1, m2, m3, m4⟩ := avTry_ok h6
    exact ⟨c.2.2.2.2, m2, hN l q c as vs ws rh s0 _ hq (by rw [hcc]; exact m1) (by omega) m3 m4 hvs h5 (abBle h3) hso hkn⟩
