/-! what a division of longs leaves -/
theorem avRemL (x y : Int64) (hy : 1 ≤ y.toInt) : (x - x / y * y).toInt = x.toInt.tmod y.toInt := by
  rw [Int64.toInt_sub, Int64.toInt_mul, avDivL x y hy, Int.sub_bmod_bmod]
  have e := Int.tmod_def x.toInt y.toInt
  rw [Int.mul_comm] at e
  rw [← e]
  obtain ⟨b1, b2⟩ := tmod_bounds (a := x.toInt) (M := y.toInt) (by omega)
  have h1 := avI64 y
  have g2 : y.toInt ≤ (9223372036854775807 : Int) := h1.2
  refine avWrapL ⟨?_, ?_⟩
  · show (-9223372036854775808 : Int) ≤ _
    omega
  · show _ ≤ (9223372036854775807 : Int)
    omega
theorem avReml_ok : avOplP (fun x y => x - x / y * y) (fun y => ¬ y = 0) (avFrem 1) := by
  intro rh s a b K x y hs da db ea eb h
  obtain ⟨q, h⟩ := abIf_and h
  have l1 := afLo_ok hs da
  have l2 := afHi_ok hs da
  have l3 := afLo_ok hs db
  have l4 := afHi_ok hs db
  have hq := aiLe_ok q
  have hy : 1 ≤ y.toInt := by omega
  refine ⟨avNe0L hy, ?_⟩
  show avGoes rh s 1 (x - x / y * y).toInt K
  rw [avRemL x y hy]
  obtain ⟨b1, b2⟩ := tmod_bounds (a := x.toInt) (M := y.toInt) (by omega)
  cases q2 : aiLe 0 (afLo s.1 a) with
  | false =>
    rw [q2, abIf_f rfl] at h
    exact avBox_ok hs (by omega) (by omega) h
  | true =>
    rw [q2, abIf_t rfl] at h
    have g := aiLe_ok q2
    have e := Int.tmod_eq_emod_of_nonneg (a := x.toInt) (b := y.toInt) (by omega)
    cases q3 : aiLe (afHi s.1 a + 1) (afLo s.1 b) with
    | true =>
      rw [q3, abIf_t rfl] at h
      have g3 := aiLe_ok q3
      refine ⟨rh, s.1, a, h, afLe.rf rh, hs, da, ?_⟩
      rw [e, Int.emod_eq_of_lt (by omega) (by omega)]
      exact ea.symm
    | false =>
      rw [q3, abIf_f rfl] at h
      have m := aiMin_le (afHi s.1 a) (afHi s.1 b - 1)
      have h0 := Int.emod_nonneg x.toInt (b := y.toInt) (by omega)
      have h5 := Int.emod_add_mul_ediv x.toInt y.toInt
      have h6 : 0 ≤ y.toInt * (x.toInt / y.toInt) := Int.mul_nonneg (by omega) (Int.ediv_nonneg (by omega) (by omega))
      have h1 : x.toInt % y.toInt ≤ x.toInt := by omega
      exact avBox_ok hs (by omega) (by omega) h
theorem avS92 {RT : Lean.RArray avRg} {RG : avRJ} {k : Nat} {e : abEy} (hd : decode (abBy k) e.2.1 = .ok (.lrem, 1)) : avOkE RT RG k e (avOi 1 (avFrem 1)) := by
  intro D z sb w0 r0 p l ev R s m args below meth c cc cs Q d nx pc ls st q hF hpc hnx _ h
  obtain ⟨hx, hb, -⟩ := hF
  obtain ⟨o, pc', a1, a2, x, ps⟩ := e
  have hp : pc' = pc := hpc
  subst hp
  have hd : decode (abBy k) pc' = .ok (.lrem, 1) := hd
  obtain ⟨w, v, rr, rfl, h0⟩ := av2_some h
  obtain ⟨k1, h1⟩ := avFo_some h0
  obtain ⟨k2, h2⟩ := avFo_some h1
  intro rh H locs ws A xs hH hX hL hS
  obtain ⟨y0, xr, rfl, gw, x0, xr', rfl, gv, hS'⟩ := hS
  obtain ⟨d1, x1, rfl, e1⟩ := avGv_l gv k1
  obtain ⟨d2, y1, rfl, e2⟩ := avGv_l gw k2
  obtain ⟨hP, rh', g, u, h3, hle, hso, du, eu⟩ := avReml_ok rh q _ _ _ x1 y1 hH.2.2.2.2.1 d1 d2 e1 e2 h2
  refine lv_lrem hx hb hd hP ?_
  exact hnx _ _ _ _ h3 rh' H locs ws A _ (hH.names hle hso) (hX.nm hle) (hL.mono (abX.rf ws) hle) ⟨_, _, rfl, ⟨du, _, rfl, eu.symm⟩, hS'.mono (abX.rf ws) hle⟩
