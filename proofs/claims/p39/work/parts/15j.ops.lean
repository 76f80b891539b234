/-! entries that the tables of p1 lack -/
theorem avS90 {RT : Lean.RArray avRg} {RG : avRJ} {k : Nat} {e : abEy} (hd : decode (abBy k) e.2.1 = .ok (.i2s, 1)) : avOkE RT RG k e (avOcut (-32768) 32767) := by
  intro D z sb w0 r0 p l ev R s m args below meth c cc cs Q d nx pc ls st q hF hpc hnx _ h
  obtain ⟨hx, hb, hml, hown, hts, hnm, hz, hR3, hR4⟩ := hF
  obtain ⟨o, pc', a1, a2, x, ps⟩ := e
  have hp : pc' = pc := hpc
  subst hp
  have hd : decode (abBy k) pc' = .ok (.i2s, 1) := hd
  obtain ⟨v, rr, rfl, h0⟩ := avHd_some h
  obtain ⟨k1, h1⟩ := avFo_some h0
  intro rh H locs ws A xs hH hX hL hS
  obtain ⟨x0, xr, rfl, gv, hS'⟩ := hS
  obtain ⟨d1, y, rfl, e1⟩ := avGv_i gv k1
  have b1 := Int16.le_toInt y.toInt16
  have b2 := Int16.toInt_lt y.toInt16
  have fin : avNew 0 (-32768) 32767 q (fun u s => nx (pc' + 1) ls (u :: rr) s) = true → W p l ev R s m args below meth c H locs cc cs Q (F0 m pc' A (.int y :: xr)) := by
    intro h2
    obtain ⟨rh', g, u, h3, hle, hso, du, eu⟩ := avNew_ok (z := y.toInt16.toInt32.toInt) hH.2.2.2.2.1 (by rw [Int16.toInt_toInt32]; omega) (by rw [Int16.toInt_toInt32]; omega) h2
    refine lv_i2s hx hb hd rfl ?_
    exact hnx _ _ _ _ h3 rh' H locs ws A _ (hH.names hle hso) (hX.nm hle) (hL.mono (abX.rf ws) hle) ⟨_, _, rfl, ⟨du, _, rfl, eu.symm⟩, hS'.mono (abX.rf ws) hle⟩
  cases q1 : avGe q (afAdd v.2.2 ([], -(-32768))) with
  | false => rw [q1, abIf_f rfl] at h1; exact fin h1
  | true =>
    rw [q1, abIf_t rfl] at h1
    cases q2 : avGe q (afSub ([], 32767) v.2.2) with
    | false => rw [q2, abIf_f rfl] at h1; exact fin h1
    | true =>
      rw [q2, abIf_t rfl] at h1
      have g1 := avGe_ok hH.2.2.2.2.1 (afAdd_D d1 (afNil_D rh)) q1
      have g2 := avGe_ok hH.2.2.2.2.1 (afSub_D (f := ([], 32767)) (afNil_D rh) d1) q2
      rw [afAdd_V] at g1
      rw [afSub_V] at g2
      have c1 : afV rh (([], -(-32768)) : afF) = -(-32768) := afC_V rh _
      have c2 : afV rh (([], 32767) : afF) = 32767 := afC_V rh _
      refine lv_i2s hx hb hd rfl ?_
      refine hnx _ _ _ _ h1 rh H locs ws A _ hH hX hL ⟨_, _, rfl, ?_, hS'⟩
      obtain ⟨t, r, f⟩ := v
      have ht : t = 0 := k1
      subst ht
      refine ⟨d1, _, rfl, ?_⟩
      show y.toInt16.toInt32.toInt = afV rh f
      rw [Int16.toInt_toInt32, Int32.toInt_toInt16, e1]
      show (afV rh f).bmod (2 ^ 16) = afV rh f
      have g1' : 0 ≤ afV rh f + afV rh (([], -(-32768)) : afF) := g1
      have g2' : 0 ≤ afV rh (([], 32767) : afF) - afV rh f := g2
      exact Int.bmod_eq_of_le (by omega) (by omega)
