/-! the run: what it stands on, ends, cuts -/
def avOkE (RT : Lean.RArray avRg) (RG : avRJ) (k : Nat) (e : abEy) (F : avPo) : Prop := ∀ (D : va_G) (z sb : Nat) (w0 : va_W) (r0 : afR) (p : Program) (l : Launch) (ev : Env) (R : Room) (s : State) (m : MethodId) (args : Array Value) (below : List Frame) (meth : Method) (c : Code) (cc cs : Nat) (Q : State → Prop) (d : Nat) (nx : avNx) (pc : Nat) (ls st : List avV) (q : avS), avFr z k d p R s m args meth c → e.2.1 = pc → avNs D z sb RT RG w0 r0 p l ev R s m args below meth c cc cs Q nx → cc ≤ R.cells ∧ cs ≤ R.slots → F nx e pc ls st q = true → avW D z sb RT RG w0 r0 p l ev R s m args below meth c cc cs Q pc ls st q
theorem avOk.at {RT : Lean.RArray avRg} {RG : avRJ} {op : Nat} {F : avPo} (h : avOk RT RG op F) {k : Nat} {e : abEy} (hE : abEtOk k e) (ho : e.1 = op) : avOkE RT RG k e F := fun D z sb w0 r0 p l ev R s m args below meth c cc cs Q d nx pc ls st q hF hp hn _ hf => h D z sb w0 r0 p l ev R s m args below meth c cc cs Q k d nx e pc ls st q hF hE ho hp hn hf
/-- the tables that the run goes by -/
def avTabs (RT : Lean.RArray avRg) (RG : avRJ) (TT : Nat → Lean.RArray abEy) (OP : Lean.RArray avPo) : Prop := ∀ k pc : Nat, k < abNM → ((TT k).get pc).2.1 = pc →
  (((TT k).get pc).1 ≤ 77 ∨ 85 ≤ ((TT k).get pc).1 → avOkE RT RG k ((TT k).get pc) (OP.get ((TT k).get pc).1)) ∧ (78 ≤ ((TT k).get pc).1 → ((TT k).get pc).1 ≤ 84 → abEtOk k ((TT k).get pc))
/-- an end: the entry, what lies on the stack, what goes to the caller -/
def avRm (e : abEy) (st : List avV) (q : avS) (o : Option avV) : Prop :=
  (e.1 = 82 ∧ st = [] ∧ o = none) ∨ (e.1 = 84 ∧ ∃ v, st = [v] ∧ o = some v ∧ v.1 = 1) ∨
  (e.1 = 83 ∧ ∃ v, st = [v] ∧ o = some v ∧ v.1 = 0 ∧ (e.2.2.1 = 1 → avGe q v.2.2 = true ∧ avGe q (afSub ([], 1) v.2.2) = true))
theorem avRet_ok {e : abEy} {st : List avV} {q : avS} {K : Option avV → avS → Bool} (h : avRet e st q K = true) : ∃ o, avRm e st q o ∧ K o q = true := by
  unfold avRet at h
  cases q1 : Nat.beq e.1 82 with
  | true =>
    rw [q1, abIf_t rfl] at h
    cases st with
    | nil => exact ⟨none, Or.inl ⟨abBeq q1, rfl, rfl⟩, h⟩
    | cons v r => cases h
  | false =>
    rw [q1, abIf_f rfl] at h
    obtain ⟨v, r, rfl, h0⟩ := avHd_some h
    cases r with
    | cons w r => cases h0
    | nil =>
      have h1 : abIf (Nat.beq e.1 84) (avFo 1 v fun _ => K (some v) q) (abIf (Nat.beq e.1 83) (avFo 0 v fun f => abIf (Nat.beq e.2.2.1 1) (abIf (avGe q f) (abIf (avGe q (afSub ([], 1) f)) (K (some v) q) false) false) (K (some v) q)) false) = true := h0
      cases q2 : Nat.beq e.1 84 with
      | true =>
        rw [q2, abIf_t rfl] at h1
        obtain ⟨k1, h2⟩ := avFo_some h1
        exact ⟨some v, Or.inr (Or.inl ⟨abBeq q2, v, rfl, rfl, k1⟩), h2⟩
      | false =>
        rw [q2, abIf_f rfl] at h1
        obtain ⟨q3, h2⟩ := abIf_and h1
        obtain ⟨k1, h3⟩ := avFo_some h2
        cases q4 : Nat.beq e.2.2.1 1 with
        | true =>
          rw [q4, abIf_t rfl] at h3
          obtain ⟨b1, h4⟩ := abIf_and h3
          obtain ⟨b2, h5⟩ := abIf_and h4
          exact ⟨some v, Or.inr (Or.inr ⟨abBeq q3, v, rfl, rfl, k1, fun _ => ⟨b1, b2⟩⟩), h5⟩
        | false =>
          rw [q4, abIf_f rfl] at h3
          exact ⟨some v, Or.inr (Or.inr ⟨abBeq q3, v, rfl, rfl, k1, fun e1 => absurd e1 (abBeq_f q4)⟩), h3⟩
/-- the ends are well -/
def avKo (D : va_G) (z sb : Nat) (RT : Lean.RArray avRg) (RG : avRJ) (TT : Nat → Lean.RArray abEy) (w0 : va_W) (r0 : afR) (p : Program) (l : Launch) (ev : Env) (R : Room) (s : State) (m : MethodId) (args : Array Value) (below : List Frame) (meth : Method) (c : Code) (cc cs : Nat) (Q : State → Prop) (k : Nat) (K : Option avV → avS → Bool) : Prop :=
  ∀ (pc : Nat) (ls st : List avV) (q : avS) (o : Option avV), ((TT k).get pc).2.1 = pc → abEtOk k ((TT k).get pc) → avRm ((TT k).get pc) st q o → K o q = true → avW D z sb RT RG w0 r0 p l ev R s m args below meth c cc cs Q pc ls st q
/-- the cuts are well: from a state of the shape, with a measure below the start's -/
def avCo2 (D : va_G) (z sb : Nat) (RT : Lean.RArray avRg) (RG : avRJ) (w0 : va_W) (r0 : afR) (p : Program) (l : Launch) (ev : Env) (R : Room) (s : State) (m : MethodId) (args : Array Value) (below : List Frame) (meth : Method) (c : Code) (cc cs : Nat) (Q : State → Prop) (C : List avCut) (M : Option afF) : Prop :=
  (∀ g, M = some g → afD r0 g.1) ∧ ∀ x ∈ C, avShOk x.2.1 = true ∧ avSc x.2.1.2.1.length x.2.2.1 = true ∧ ∀ (rh : afR) (H : Heap) (locs : List Loc) (ws : va_W) (A : Array Slot), avHok D z sb RT RG rh s ws H locs (avSt0 x.2.1) → abX w0 ws → avLok RG ws sb rh x.2.1.1 c.maxLocals A → 0 ≤ afV rh x.2.2 → (∀ g, M = some g → afV rh x.2.2 < afV r0 g) → W p l ev R s m args below meth c H locs cc cs Q (F0 m x.1 A [])
theorem avTl_len (n : Nat) (th : List (Nat × afF)) : (avTl n th).length = n := by
  induction n with
  | zero => rfl
  | succ n ih =>
    show (avTl n th ++ [_]).length = n + 1
    rw [List.length_append, ih]
    rfl
theorem avArr_ok {D : va_G} {z sb : Nat} {RT : Lean.RArray avRg} {RG : avRJ} {w0 : va_W} {r0 : afR} {p : Program} {l : Launch} {ev : Env} {R : Room} {s : State} {m : MethodId} {args : Array Value} {below : List Frame} {meth : Method} {c : Code} {cc cs : Nat} {Q : State → Prop} {M : Option afF} {pc : Nat} {ls st : List avV} {q : avS} {go : Bool} (hgo : go = true → avW D z sb RT RG w0 r0 p l ev R s m args below meth c cc cs Q pc ls st q) : ∀ {C : List avCut}, avCo2 D z sb RT RG w0 r0 p l ev R s m args below meth c cc cs Q C M → avArr M pc ls st q go C = true → avW D z sb RT RG w0 r0 p l ev R s m args below meth c cc cs Q pc ls st q
  | [], _, h => hgo h
  | x :: C, hc, h => by
    have h' : abIf (Nat.beq x.1 pc) (List.rec (motive := fun _ => Bool) (abIf (avFit q (avTheta q x.2.1 ls) x.2.1 ls) (abIf (avGe q (avSb (avTheta q x.2.1 ls) x.2.2)) (avLess q M (avSb (avTheta q x.2.1 ls) x.2.2)) false) false) (fun _ _ _ => false) st) (avArr M pc ls st q go C) = true := h
    cases q1 : Nat.beq x.1 pc with
    | false =>
      rw [q1, abIf_f rfl] at h'
      exact avArr_ok hgo ⟨hc.1, fun y hy => hc.2 y (List.mem_cons_of_mem _ hy)⟩ h'
    | true =>
      rw [q1, abIf_t rfl] at h'
      have ep := abBeq q1
      subst ep
      cases st with
      | cons v r => cases h'
      | nil =>
        obtain ⟨h1, h2⟩ := abIf_and h'
        obtain ⟨h3, h4⟩ := abIf_and h2
        obtain ⟨hd0, hcs⟩ := hc
        obtain ⟨c1, c2, c3⟩ := hcs x List.mem_cons_self
        intro rh H locs ws A xs hH hX hL hS
        have hS' : xs = [] := hS
        subst hS'
        obtain ⟨f1, f2, f3⟩ := avFit_ok hH c1 h1
        have hso := hH.2.2.2.2.1
        obtain ⟨sc, -⟩ := abIf_and h1
        have hd := avScL_ok hso.1 sc
        have hlen : (avTheta q x.2.1 ls).length = x.2.1.2.1.length := avTl_len _ _
        obtain ⟨b1, b2, b3⟩ := avSbF (f := x.2.2) hd (by rw [hlen]; exact c2)
        have g1 := avGe_ok hso b1 h3
        refine c3 _ H locs ws A f1 hX.1 ?_ (by rw [← b3]; exact g1) (fun g hg => ?_)
        · obtain ⟨l1, lv, l2, l3⟩ := hL
          refine ⟨by rw [f2]; exact l1, lv, l2, fun i v hi hv => ?_⟩
          have hil := (List.getElem?_eq_some_iff.mp hi).1
          have hw : ls[i]? = some ls[i] := List.getElem?_eq_getElem (by omega)
          by_cases h6 : ls[i].1 = 6
          · exfalso
            obtain ⟨-, h9⟩ := abIf_and h1
            obtain ⟨h10, -⟩ := abIf_and h9
            have e := (avVs_ok h10).2 i v _ hi hw hv
            have e2 : v.1 = ls[i].1 := by rw [← e]; rfl
            exact hv (by rw [e2]; exact h6)
          · obtain ⟨xv, q3, q4⟩ := l3 i _ hw h6
            exact ⟨xv, q3, (f3 i v _ xv hi hw hv q4).1⟩
        · subst hg
          have dg := hd0 g rfl
          have h5 : avGe q (afSub (afAdd g ([], -1)) (avSb (avTheta q x.2.1 ls) x.2.2)) = true := h4
          have g2 := avGe_ok hso (afSub_D (afAdd_D (g := ([], -1)) (dg.mono hX.2) (afNil_D rh)) b1) h5
          rw [afSub_V, afAdd_V, afK_V, b3, afV_mono hX.2 dg] at g2
          omega
