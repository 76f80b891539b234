/-! a contract's Met -/
def avNo : afR := fun _ => none
theorem avNo_le (rh : afR) : afLe avNo rh := fun x v h => (by cases h)
/-- the runs that a contract rests on -/
def avConOk (RT : Lean.RArray avRg) (TT : Nat → Lean.RArray abEy) (CC : Lean.RArray (List avCon)) (OP : Lean.RArray avPo) (q : Nat) (c : avCon) : Prop := ∃ (n : Nat) (C : List avCut), avShOk c.2.1 = true ∧ (∀ v ∈ c.2.1.1, v.1 ≤ 5) ∧ avSm c.2.1.1 ≤ (abMe q).1.2.2.1 ∧ avRun RT TT CC OP n C none true c.2.2.2.2 q 0 (avEn c.2.1.1 (abMe q).1.2.2.1) [] (avSt0 c.2.1) (avKc c.2.2.1) = true ∧
  ∀ x ∈ C, avShOk x.2.1 = true ∧ avSc x.2.1.2.1.length x.2.2.1 = true ∧ avRun RT TT CC OP n C (some x.2.2) true c.2.2.2.2 q x.1 x.2.1.1 [] (avSt0 x.2.1) (avKc c.2.2.1) = true
theorem avCuts_ok {D : va_G} {z sb : Nat} {RT : Lean.RArray avRg} {RG : avRJ} {TT : Nat → Lean.RArray abEy} {CC : Lean.RArray (List avCon)} {OP : Lean.RArray avPo} {N n : Nat} (IH : avRuns D z sb RT RG TT CC OP N n) {q d : Nat} (hq : q < abNM) (hd : d ≤ N) {C : List avCut} {K : Option avV → avS → Bool}
    (hC : ∀ x ∈ C, avShOk x.2.1 = true ∧ avSc x.2.1.2.1.length x.2.2.1 = true ∧ avRun RT TT CC OP n C (some x.2.2) true d q x.1 x.2.1.1 [] (avSt0 x.2.1) K = true)
    {w0 : va_W} {p : Program} {l : Launch} {ev : Env} {R : Room} {s : State} {m : MethodId} {args : Array Value} {below : List Frame} {meth : Method} {c : Code} {Q : State → Prop} (hF : avFr z q d p R s m args meth c) (hKo : avKo D z sb RT RG TT w0 avNo p l ev R s m args below meth c 0 0 Q q K) :
    ∀ (B : Nat), ∀ x ∈ C, ∀ (rh : afR) (H : Heap) (locs : List Loc) (ws : va_W) (A : Array Slot), avHok D z sb RT RG rh s ws H locs (avSt0 x.2.1) → abX w0 ws → avLok RG ws sb rh x.2.1.1 c.maxLocals A → 0 ≤ afV rh x.2.2 → afV rh x.2.2 < (B : Int) → W p l ev R s m args below meth c H locs 0 0 Q (F0 m x.1 A [])
  | 0 => by
    intro x hx rh H locs ws A hH hX hL h0 h1
    omega
  | B + 1 => by
    have ih := avCuts_ok IH hq hd hC hF hKo B
    intro x hx rh H locs ws A hH hX hL h0 h1
    obtain ⟨c1, c2, c3⟩ := hC x hx
    have hdm : afD rh x.2.2.1 := by
      have hs := hH.2.2.2.2.1.1
      have e : (avSt0 x.2.1).1.1 = x.2.1.2.1.length := rfl
      rw [← e] at c2
      exact avSc_ok hs c2
    have hC2 : avCo2 D z sb RT RG ws rh p l ev R s m args below meth c 0 0 Q C (some x.2.2) := by
      refine ⟨fun g hg => by cases hg; exact hdm, fun y hy => ?_⟩
      obtain ⟨y1, y2, y3⟩ := hC y hy
      refine ⟨y1, y2, fun rh' H' locs' ws' A' hH' hX' hL' h0' hlt => ?_⟩
      have := hlt x.2.2 rfl
      exact ih y hy rh' H' locs' ws' A' hH' (hX.tr hX') hL' h0' (by omega)
    have hKo' : avKo D z sb RT RG TT ws rh p l ev R s m args below meth c 0 0 Q q K := fun pc ls st q' o e1 e2 e3 e4 rh' H' locs' ws' A' xs' hH' hX' hL' hS' => hKo pc ls st q' o e1 e2 e3 e4 rh' H' locs' ws' A' xs' hH' ⟨hX.tr hX'.1, avNo_le rh'⟩ hL' hS'
    exact IH ws rh p l ev R s m args below meth c 0 0 Q q d C (some x.2.2) true x.1 x.2.1.1 [] (avSt0 x.2.1) K hF hq hd ⟨Nat.zero_le _, Nat.zero_le _⟩ hC2 hKo' c3 rh H locs ws A [] hH ⟨abX.rf ws, afLe.rf rh⟩ hL rfl
theorem avCon_ok {D : va_G} {z sb : Nat} {RT : Lean.RArray avRg} {RG : avRJ} {TT : Nat → Lean.RArray abEy} {CC : Lean.RArray (List avCon)} {OP : Lean.RArray avPo} {N : Nat} (hT : abTabs) (IH : ∀ n, avRuns D z sb RT RG TT CC OP N n) {q : Nat} {c : avCon} (hq : q < abNM) (hc0 : (abMe q).2.2.1 = 0 ∧ (abMe q).2.2.2.1 = 0) (hcN : c.2.2.2.2 ≤ N) (hc : avConOk RT TT CC OP q c) {l : Launch} {as : List avV} {vs : List Value} {ws : va_W} {rh : afR} {s0 : avS} {K : Option avV → avS → Bool} (h1 : avFit s0 (avTheta s0 c.2.1 as) c.2.1 as = true) (h2 : avAns c.2.2.1 (s0.1, avLeft c.2.2.2.1 s0.2) K = true) (hvs : avSok RG ws sb rh as vs) (hso : afSo rh s0.1) (hkn : ∀ k ∈ s0.2, avKn RG ws sb rh k) :
    Met l (abNm q) (abWs q) (abRoom q (c.2.2.2.2 + 5)) (va_Pc vs (avPre D z RT RG ws)) (avPost D z sb RT RG rh ws K) 0 0 (fun a => z ≤ a) := by
  obtain ⟨n, C, k1, k2, k3, k4, k5⟩ := hc
  obtain ⟨⟨f1, f2⟩, f3, f4⟩ := avFit_ok0 hso hkn k1 h1
  have hM := avMet (D := D) (z := z) (RT := RT) (TT := TT) (d := c.2.2.2.2) (K := avKc c.2.2.1) hq (hT.1 q hq) hc0 (avNo_le (avRh rh (avTheta s0 c.2.1 as))) l (fun p ev R s m args below meth cd Q hFr hKo => IH n ws avNo p l ev R s m args below meth cd 0 0 Q q c.2.2.2.2 C none true 0 _ [] (avSt0 c.2.1) (avKc c.2.2.1) hFr hq hcN ⟨Nat.zero_le _, Nat.zero_le _⟩ ⟨fun g hg => (by cases hg), fun x hx => ⟨(k5 x hx).1, (k5 x hx).2.1, fun rh' H' locs' ws' A' hH' hX' hL' h0' _ => avCuts_ok (IH n) hq hcN k5 hFr hKo ((afV rh' x.2.2).toNat + 1) x hx rh' H' locs' ws' A' hH' hX' hL' h0' (by omega)⟩⟩ hKo k4)
    (avSok_sh f3 k2 f4 hvs) k2 k3 f1 f2
  refine Jvm.Free.MetFree.mono hM (fun _ _ h => h) (fun _ _ _ _ _ h => h) (fun a s o t hP hQ => ?_)
  obtain ⟨⟨⟨rh', o', q', u, rv, e1, e2, -, e4, e5, e6, e7, e8⟩, hFr⟩, hL⟩ := hQ
  obtain ⟨rh2, o2, q2, g1, g2, g3, g4, g5⟩ := avKc_ok e2 e7 e5 e6.1.choose_spec.2.2.1 hso h2
  exact ⟨⟨⟨rh2, o2, q2, u, rv, e1, g1, g2, e4, g3, e6, g4, g5⟩, hFr⟩, hL⟩
