/-! longs divided -/
def avOplP (f : Int64 → Int64 → Int64) (P : Int64 → Prop) (F : avOp) : Prop := ∀ (rh : afR) (s : avS) (a b : afF) (K : avV → avS → Bool) (x y : Int64), afSo rh s.1 → afD rh a.1 → afD rh b.1 → x.toInt = afV rh a → y.toInt = afV rh b → F s a b K = true → P y ∧ avGoes rh s 1 (f x y).toInt K
theorem avDivL (x y : Int64) (hy : 1 ≤ y.toInt) : (x / y).toInt = x.toInt.tdiv y.toInt := by
  rw [Int64.toInt_div]
  have h1 := avI64 x
  have h2 := avTdiv (x := x.toInt) hy
  have g1 : (-9223372036854775808 : Int) ≤ x.toInt := h1.1
  have g2 : x.toInt ≤ (9223372036854775807 : Int) := h1.2
  refine avWrapL ⟨?_, ?_⟩
  · show (-9223372036854775808 : Int) ≤ _
    rcases Int.lt_or_le x.toInt 0 with q | q
    · have := h2.2 q; omega
    · have := h2.1 q; omega
  · show _ ≤ (9223372036854775807 : Int)
    rcases Int.lt_or_le x.toInt 0 with q | q
    · have := h2.2 q; omega
    · have := h2.1 q; omega
theorem avNe0L {y : Int64} (h : 1 ≤ y.toInt) : ¬ y = 0 := fun e => by
  rw [e] at h
  exact absurd h (by decide)
theorem avDivl_ok : avOplP (fun x y => x / y) (fun y => ¬ y = 0) (avFdiv 1) := by
  intro rh s a b K x y hs da db ea eb h
  unfold avFdiv at h
  cases q : aiLe 1 (afLo s.1 b) with
  | false =>
    rw [q, abIf_f rfl] at h
    obtain ⟨q1, h2⟩ := abIf_and h
    have l4 := afHi_ok hs db
    have hq1 := aiLe_ok q1
    refine ⟨fun e => ?_, avTop_ok hs (avI64 _) h2⟩
    rw [e] at eb
    have e0 : (0 : Int64).toInt = 0 := rfl
    omega
  | true =>
    rw [q, abIf_t rfl] at h
    have l1 := afLo_ok hs da
    have l2 := afHi_ok hs da
    have l3 := afLo_ok hs db
    have hq := aiLe_ok q
    have hy : 1 ≤ y.toInt := by omega
    refine ⟨avNe0L hy, ?_⟩
    show avGoes rh s 1 (x / y).toInt K
    rw [avDivL x y hy]
    have ht := avTdiv (x := x.toInt) hy
    cases q2 : aiLe 0 (afLo s.1 a) with
    | false =>
      rw [q2, abIf_f rfl] at h
      have m := aiMax_le (afHi s.1 a) 0
      rcases Int.lt_or_le x.toInt 0 with g | g
      · have := ht.2 g
        exact avBox_ok hs (by omega) (by omega) h
      · have := ht.1 g
        have := aiLe_f q2
        exact avBox_ok hs (by omega) (by omega) h
    | true =>
      rw [q2, abIf_t rfl] at h
      have g := aiLe_ok q2
      obtain ⟨t1, t2, t3⟩ := ht.1 (by omega)
      rw [t1]
      rcases avCo_f h with ⟨c1, h1⟩ | h1
      · have e2 := afV_c (rh := rh) c1
        have e3 : b.2 = y.toInt := by omega
        rw [e3] at h1
        exact avBox_ok hs (Int.ediv_le_ediv (by omega) (by omega)) (Int.ediv_le_ediv (by omega) (by omega)) h1
      · exact avBox_ok hs t2 (by omega) h1
theorem avS91 {RT : Lean.RArray avRg} {RG : avRJ} {k : Nat} {e : abEy} (hd : decode (abBy k) e.2.1 = .ok (.ldiv, 1)) : avOkE RT RG k e (avOi 1 (avFdiv 1)) := by
  intro D z sb w0 r0 p l ev R s m args below meth c cc cs Q d nx pc ls st q hF hpc hnx _ h
  obtain ⟨hx, hb, -⟩ := hF
  obtain ⟨o, pc', a1, a2, x, ps⟩ := e
  have hp : pc' = pc := hpc
  subst hp
  have hd : decode (abBy k) pc' = .ok (.ldiv, 1) := hd
  obtain ⟨w, v, rr, rfl, h0⟩ := av2_some h
  obtain ⟨k1, h1⟩ := avFo_some h0
  obtain ⟨k2, h2⟩ := avFo_some h1
  intro rh H locs ws A xs hH hX hL hS
  obtain ⟨y0, xr, rfl, gw, x0, xr', rfl, gv, hS'⟩ := hS
  obtain ⟨d1, x1, rfl, e1⟩ := avGv_l gv k1
  obtain ⟨d2, y1, rfl, e2⟩ := avGv_l gw k2
  obtain ⟨hP, rh', g, u, h3, hle, hso, du, eu⟩ := avDivl_ok rh q _ _ _ x1 y1 hH.2.2.2.2.1 d1 d2 e1 e2 h2
  refine lv_ldiv hx hb hd hP ?_
  exact hnx _ _ _ _ h3 rh' H locs ws A _ (hH.names hle hso) (hX.nm hle) (hL.mono (abX.rf ws) hle) ⟨_, _, rfl, ⟨du, _, rfl, eu.symm⟩, hS'.mono (abX.rf ws) hle⟩
