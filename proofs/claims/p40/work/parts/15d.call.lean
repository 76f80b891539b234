/-! calls -/
theorem avRf_some {v : avV} {k : Nat → afF → Bool} (h : avRf v k = true) : v.1 = 2 ∧ k v.2.1 v.2.2 = true := by
  obtain ⟨h1, h2⟩ := abIf_and h
  exact ⟨abBeq h1, h2⟩
/-- the contracts that go less than N deep hold -/
def avCn (D : va_G) (z sb : Nat) (RT : Lean.RArray avRg) (RG : avRJ) (CC : Lean.RArray (List avCon)) (N : Nat) : Prop :=
  ∀ (l : Launch) (q : Nat) (c : avCon) (as : List avV) (vs : List Value) (ws : va_W) (rh : afR) (s0 : avS) (K : Option avV → avS → Bool), q < abNM → c ∈ CC.get q → c.2.2.2.2 < N → avFit s0 (avTheta s0 c.2.1 as) c.2.1 as = true → avAns c.2.2.1 (s0.1, avLeft c.2.2.2.1 s0.2) K = true → avSok RG ws sb rh as vs → (∀ v ∈ as, v.1 ≤ 5) → avSm as ≤ (abMe q).1.2.2.1 → afSo rh s0.1 → (∀ k ∈ s0.2, avKn RG ws sb rh k) → Met l (abNm q) (abWs q) (abRoom q (c.2.2.2.2 + 5)) (va_Pc vs (avPre D z RT RG ws)) (avPost D z sb RT RG rh ws K) 0 0 (fun a => z ≤ a)
theorem avTry_ok {d : Nat} {s : avS} {as : List avV} {K : Option avV → avS → Bool} : ∀ {l : List avCon}, avTry d s as K l = true → ∃ c ∈ l, c.2.2.2.2 + 1 ≤ d ∧ avFit s (avTheta s c.2.1 as) c.2.1 as = true ∧ avAns c.2.2.1 (s.1, avLeft c.2.2.2.1 s.2) K = true
  | [], h => by cases h
  | c :: l, h => by
    have h' : abIf (Nat.ble (c.2.2.2.2 + 1) d) (abIf (avFit s (avTheta s c.2.1 as) c.2.1 as) (avAns c.2.2.1 (s.1, avLeft c.2.2.2.1 s.2) K) (avTry d s as K l)) (avTry d s as K l) = true := h
    have rest : avTry d s as K l = true → ∃ c' ∈ c :: l, c'.2.2.2.2 + 1 ≤ d ∧ avFit s (avTheta s c'.2.1 as) c'.2.1 as = true ∧ avAns c'.2.2.1 (s.1, avLeft c'.2.2.2.1 s.2) K = true := fun hh => by
      obtain ⟨c', m, r⟩ := avTry_ok hh
      exact ⟨c', List.mem_cons_of_mem _ m, r⟩
    cases q1 : Nat.ble (c.2.2.2.2 + 1) d with
    | false => rw [q1, abIf_f rfl] at h'; exact rest h'
    | true =>
      rw [q1, abIf_t rfl] at h'
      cases q2 : avFit s (avTheta s c.2.1 as) c.2.1 as with
      | false => rw [q2, abIf_f rfl] at h'; exact rest h'
      | true =>
        rw [q2, abIf_t rfl] at h'
        exact ⟨c, List.mem_cons_self, abBle q1, q2, h'⟩
/-- the contract of a call, run inline or looked up -/
theorem avGo_ok {D : va_G} {z sb : Nat} {RT : Lean.RArray avRg} {RG : avRJ} {TT : Nat → Lean.RArray abEy} {CC : Lean.RArray (List avCon)} {OP : Lean.RArray avPo} {N n : Nat} (IH : avRuns D z sb RT RG TT CC OP N n) (hN : avCn D z sb RT RG CC N) {C : List avCut} {M : Option afF} {k q d pc : Nat} (hd : d ≤ N) (hq : q < abNM) (hm : abMok q) (hc0 : (abMe q).2.2.1 = 0 ∧ (abMe q).2.2.2.1 = 0) {ls as rr : List avV} {vs : List Value} {ws : va_W} {rh : afR} {s0 : avS} {K : Option avV → avS → Bool} (l : Launch)
    (h : avGo TT CC (avRun RT TT CC OP n) C M d k q pc ls as rr s0 K = true) (hvs : avSok RG ws sb rh as vs) (h5 : ∀ v ∈ as, v.1 ≤ 5) (hso : afSo rh s0.1) (hkn : ∀ k ∈ s0.2, avKn RG ws sb rh k) :
    avSm rr ≤ 8 ∧ ∃ d' : Nat, d' + 1 ≤ d ∧ Met l (abNm q) (abWs q) (abRoom q (d' + 5)) (va_Pc vs (avPre D z RT RG ws)) (avPost D z sb RT RG rh ws (fun o s => avRun RT TT CC OP n C M false d k (pc + 3) ls (avPush rr o) s K)) 0 0 (fun a => z ≤ a) := by
  obtain ⟨h1, h2⟩ := abIf_and h
  obtain ⟨h3, h4⟩ := abIf_and h2
  refine ⟨abBle h1, ?_⟩
  generalize hcc : CC.get q = cl at h4
  cases cl with
  | nil =>
    cases d with
    | zero => cases h4
    | succ d' => exact ⟨d', Nat.le_refl _, avGi_ok IH hq (by omega) hm hc0 l h4 hvs h5 (abBle h3) hso hkn⟩
  | cons c0 cl =>
    have h6 : avTry d s0 as (fun o s => avRun RT TT CC OP n C M false d k (pc + 3) ls (avPush rr o) s K) (c0 :: cl) = true := h4
    obtain ⟨c, m1, m2, m3, m4⟩ := avTry_ok h6
    exact ⟨c.2.2.2.2, m2, hN l q c as vs ws rh s0 _ hq (by rw [hcc]; exact m1) (by omega) m3 m4 hvs h5 (abBle h3) hso hkn⟩
