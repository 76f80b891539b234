/-! writing rows, making, copying -/
theorem abX.via {w : va_W} {D : va_G} {cl : List vw_C} {H1 : Heap} {q0 a : Nat} {e0 e1 : va_E} (h : w[q0]? = some (a, e0)) (_ : va_P D cl (w.set q0 (a, e1)) H1) : abX w (w.set q0 (a, e1)) := abX.set h
theorem abS69 : abOk 69 (abOst abKia) := by
  intro D z sb sl rh xs0 w0 p l ev R s m args below meth c Q k d nx e pc ls st g r hF hE hop hpc hnx h
  obtain ⟨hx, hb, hml, hown, hts, hnm, hz, hR1, hR2, hR3, hR4, hlaw⟩ := hF
  obtain ⟨o, pc', a1, a2, x, ps⟩ := e
  have ho : o = 69 := hop
  have hp : pc' = pc := hpc
  subst ho; subst hp
  have hd := abEt_dec hE (show ¬ (69 : Nat) = 85 by decide) rfl
  obtain ⟨u, s1, rfl, h0⟩ := abHd_some h
  obtain ⟨w, v, rr, rfl, h0⟩ := ab2_some h0
  intro H locs ws A xs hH hX hL hS
  have hS0 := hS
  obtain ⟨x2, xr2, rfl, gu, x0, xr, rfl, gw, x1, xr', rfl, gv, hS'⟩ := hS
  obtain ⟨⟨tys, hK, hC⟩, hP, hD, hSS, hn, h4096, hwf, he⟩ := id hH
  obtain ⟨ia, ib, y, h1, rfl, p1, p2, -, -⟩ := abWi0 h0 he gw
  cases qab : Nat.beq ia ib with
  | false =>
    rw [abIf_f qab] at h1
    exact abHas_run hnx (abSpl_ok h1 he (abTag_i gw) p1 p2) hH hX hL hS0
  | true =>
    rw [abIf_t qab] at h1
    have eab := abBeq qab
    obtain ⟨a, en, h2, hj, rfl⟩ := abWr_ok h1 gv
    have hcell := hC v.2.1 (hH.lt hj)
    obtain ⟨hin, h3⟩ := abA1_ok (y := y) h2 (by omega)
    have hlt : y.toNatClampNeg < (g.1.get v.2.1).2.1 := Nat.not_le.mp fun q => hin (Or.inr q)
    obtain ⟨h4, h5⟩ := abIf_some h3
    have ec := abBeq h4
    obtain ⟨h6, h7⟩ := abIf_some h5
    have e7 := abBle h6
    obtain ⟨yv, rfl⟩ := abG_i gu (by omega)
    obtain ⟨a', cA, f, t0, e1, e2, e3, e4⟩ := hcell.2.2.1 .int (by rw [ec]; rfl)
    rw [hj] at e1
    cases e1
    refine va_iast hx hb hK hP hD hSS v.2.1 t0 hj e2 hin hd (fun H1 locs1 hP1 hD1 hS1 => ?_)
    have hX1 := abX.via hj hP1
    exact hnx _ _ _ _ r h7 (fun _ q => q) H1 locs1 _ A _ (hH.put hK hC hj hP1 hD1 hS1 (abCs.putI hX1 hcell.1 (by rw [ec]; rfl) e2 e3 e4 hlt (gu.mono hX1))) (hX.tr hX1) (hL.mono hX1) (hS'.mono hX1)
theorem abS71 : abOk 71 (abOst abKla) := by
  intro D z sb sl rh xs0 w0 p l ev R s m args below meth c Q k d nx e pc ls st g r hF hE hop hpc hnx h
  obtain ⟨hx, hb, hml, hown, hts, hnm, hz, hR1, hR2, hR3, hR4, hlaw⟩ := hF
  obtain ⟨o, pc', a1, a2, x, ps⟩ := e
  have ho : o = 71 := hop
  have hp : pc' = pc := hpc
  subst ho; subst hp
  have hd := abEt_dec hE (show ¬ (71 : Nat) = 85 by decide) rfl
  obtain ⟨u, s1, rfl, h0⟩ := abHd_some h
  obtain ⟨w, v, rr, rfl, h0⟩ := ab2_some h0
  intro H locs ws A xs hH hX hL hS
  have hS0 := hS
  obtain ⟨x2, xr2, rfl, gu, x0, xr, rfl, gw, x1, xr', rfl, gv, hS'⟩ := hS
  obtain ⟨⟨tys, hK, hC⟩, hP, hD, hSS, hn, h4096, hwf, he⟩ := id hH
  obtain ⟨ia, ib, y, h1, rfl, p1, p2, -, -⟩ := abWi0 h0 he gw
  cases qab : Nat.beq ia ib with
  | false =>
    rw [abIf_f qab] at h1
    exact abHas_run hnx (abSpl_ok h1 he (abTag_i gw) p1 p2) hH hX hL hS0
  | true =>
    rw [abIf_t qab] at h1
    have eab := abBeq qab
    obtain ⟨a, en, h2, hj, rfl⟩ := abWr_ok h1 gv
    have hcell := hC v.2.1 (hH.lt hj)
    obtain ⟨hin, h3⟩ := abA1_ok (y := y) h2 (by omega)
    have hlt : y.toNatClampNeg < (g.1.get v.2.1).2.1 := Nat.not_le.mp fun q => hin (Or.inr q)
    obtain ⟨h4, h5⟩ := abIf_some h3
    have ec := abBeq h4
    obtain ⟨h6, h7⟩ := abIf_some h5
    have e7 := abDiv h6
    obtain ⟨yv, rfl⟩ := abG_l gu (by omega)
    obtain ⟨a', cA, f, t0, e1, e2, e3, e4⟩ := hcell.2.2.2.1 ec
    rw [hj] at e1
    cases e1
    refine va_last hx hb hK hP hD hSS v.2.1 t0 hj e2 hin hd (fun H1 locs1 hP1 hD1 hS1 => ?_)
    have hX1 := abX.via hj hP1
    exact hnx _ _ _ _ r h7 (fun _ q => q) H1 locs1 _ A _ (hH.put hK hC hj hP1 hD1 hS1 (abCs.putL hX1 hcell.1 ec e2 e3 e4 hlt (gu.mono hX1))) (hX.tr hX1) (hL.mono hX1) (hS'.mono hX1)
theorem abS70 : abOk 70 (abOst abKba) := by
  intro D z sb sl rh xs0 w0 p l ev R s m args below meth c Q k d nx e pc ls st g r hF hE hop hpc hnx h
  obtain ⟨hx, hb, hml, hown, hts, hnm, hz, hR1, hR2, hR3, hR4, hlaw⟩ := hF
  obtain ⟨o, pc', a1, a2, x, ps⟩ := e
  have ho : o = 70 := hop
  have hp : pc' = pc := hpc
  subst ho; subst hp
  have hd := abEt_dec hE (show ¬ (70 : Nat) = 85 by decide) rfl
  obtain ⟨u, s1, rfl, h0⟩ := abHd_some h
  obtain ⟨w, v, rr, rfl, h0⟩ := ab2_some h0
  intro H locs ws A xs hH hX hL hS
  have hS0 := hS
  obtain ⟨x2, xr2, rfl, gu, x0, xr, rfl, gw, x1, xr', rfl, gv, hS'⟩ := hS
  obtain ⟨⟨tys, hK, hC⟩, hP, hD, hSS, hn, h4096, hwf, he⟩ := id hH
  obtain ⟨ia, ib, y, h1, rfl, p1, p2, -, -⟩ := abWi0 h0 he gw
  cases qab : Nat.beq ia ib with
  | false =>
    rw [abIf_f qab] at h1
    exact abHas_run hnx (abSpl_ok h1 he (abTag_i gw) p1 p2) hH hX hL hS0
  | true =>
    rw [abIf_t qab] at h1
    have eab := abBeq qab
    obtain ⟨a, en, h2, hj, rfl⟩ := abWr_ok h1 gv
    have hcell := hC v.2.1 (hH.lt hj)
    obtain ⟨hin, h3⟩ := abA1_ok (y := y) h2 (by omega)
    have hlt : y.toNatClampNeg < (g.1.get v.2.1).2.1 := Nat.not_le.mp fun q => hin (Or.inr q)
    cases q2 : Nat.beq (g.1.get v.2.1).1 102 with
    | true =>
      have h3' : abIf (Nat.beq (g.1.get v.2.1).1 102) _ _ = some r := h3
      rw [abIf_t q2] at h3'
      have ec := abBeq q2
      obtain ⟨va, vb, yv, h4, rfl, s1, s2, -, -⟩ := abWi0 h3' he gu
      obtain ⟨h5, h6⟩ := abIf_some h4
      obtain ⟨h7, h8⟩ := abIf_some h6
      have b1 := abBle h5
      have b2 := abBle h7
      have hnar : vp_nar .byte yv = yv := abNarB (by simp only [abB] at s1; omega) (by simp only [abB] at s2; omega)
      obtain ⟨a', cA, f, t0, e1, e2, e3, e4⟩ := hcell.2.2.1 .byte (by rw [ec]; rfl)
      rw [hj] at e1
      cases e1
      refine va_bast hx hb hK hP hD hSS v.2.1 t0 hj e2 hin hd (fun H1 locs1 hP1 hD1 hS1 => ?_)
      rw [hnar] at hP1 hD1
      have hX1 := abX.via hj hP1
      exact hnx _ _ _ _ r h8 (fun _ q => q) H1 locs1 _ A _ (hH.put hK hC hj hP1 hD1 hS1 (abCs.putI hX1 hcell.1 (by rw [ec]; rfl) e2 e3 e4 hlt (gu.mono hX1))) (hX.tr hX1) (hL.mono hX1) (hS'.mono hX1)
    | false =>
      have h3' : abIf (Nat.beq (g.1.get v.2.1).1 102) _ _ = some r := h3
      rw [abIf_f q2] at h3'
      obtain ⟨q3, h3''⟩ := abIf_some h3'
      have ec := abBeq q3
      obtain ⟨va, vb, yv, h4, rfl, s1, s2, -, -⟩ := abWi0 h3'' he gu
      obtain ⟨h5, h6⟩ := abIf_some h4
      obtain ⟨h7, h8⟩ := abIf_some h6
      have b1 := abBle h5
      have b2 := abBle h7
      have hnar : vp_nar .boolean yv = yv := abNarZ (by simp only [abB] at s1; omega) (by simp only [abB] at s2; omega)
      obtain ⟨a', cA, f, t0, e1, e2, e3, e4⟩ := hcell.2.2.1 .boolean (by rw [ec]; rfl)
      rw [hj] at e1
      cases e1
      refine va_zast hx hb hK hP hD hSS v.2.1 t0 hj e2 hin hd (fun H1 locs1 hP1 hD1 hS1 => ?_)
      rw [hnar] at hP1 hD1
      have hX1 := abX.via hj hP1
      exact hnx _ _ _ _ r h8 (fun _ q => q) H1 locs1 _ A _ (hH.put hK hC hj hP1 hD1 hS1 (abCs.putI hX1 hcell.1 (by rw [ec]; rfl) e2 e3 e4 hlt (gu.mono hX1))) (hX.tr hX1) (hL.mono hX1) (hS'.mono hX1)
theorem abS72 : abOk 72 (abOst abKaa) := by
  intro D z sb sl rh xs0 w0 p l ev R s m args below meth c Q k d nx e pc ls st g r hF hE hop hpc hnx h
  obtain ⟨hx, hb, hml, hown, hts, hnm, hz, hR1, hR2, hR3, hR4, hlaw⟩ := hF
  obtain ⟨o, pc', a1, a2, x, ps⟩ := e
  have ho : o = 72 := hop
  have hp : pc' = pc := hpc
  subst ho; subst hp
  have hd := abEt_dec hE (show ¬ (72 : Nat) = 85 by decide) rfl
  obtain ⟨u, s1, rfl, h0⟩ := abHd_some h
  obtain ⟨w, v, rr, rfl, h0⟩ := ab2_some h0
  intro H locs ws A xs hH hX hL hS
  have hS0 := hS
  obtain ⟨x2, xr2, rfl, gu, x0, xr, rfl, gw, x1, xr', rfl, gv, hS'⟩ := hS
  obtain ⟨⟨tys, hK, hC⟩, hP, hD, hSS, hn, h4096, hwf, he⟩ := id hH
  obtain ⟨ia, ib, y, h1, rfl, p1, p2, -, -⟩ := abWi0 h0 he gw
  cases qab : Nat.beq ia ib with
  | false =>
    rw [abIf_f qab] at h1
    exact abHas_run hnx (abSpl_ok h1 he (abTag_i gw) p1 p2) hH hX hL hS0
  | true =>
    rw [abIf_t qab] at h1
    have eab := abBeq qab
    obtain ⟨a, en, h2, hj, rfl⟩ := abWr_ok h1 gv
    have hcell := hC v.2.1 (hH.lt hj)
    obtain ⟨hin, h3⟩ := abA1_ok (y := y) h2 (by omega)
    have hlt : y.toNatClampNeg < (g.1.get v.2.1).2.1 := Nat.not_le.mp fun q => hin (Or.inr q)
    obtain ⟨b0, en2, h4, hj2, rfl⟩ := abWr_ok h3 gu
    obtain ⟨h5, h6⟩ := abIf_some h4
    obtain ⟨h7, h8⟩ := abIf_some h6
    have b1 := abBle h5
    have b2 := abBeq h7
    have hcell2 := hC u.2.1 (hH.lt hj2)
    obtain ⟨a2', fs, yq, e1, e2, e3, e4, e5⟩ := hcell2.2.1 b1
    rw [hj2] at e1
    cases e1
    obtain ⟨a', cA, f, t0, yc, g1, g0, g2, g3, g4⟩ := hcell.2.2.2.2 (by omega)
    rw [hj] at g1
    cases g1
    have eidx : (g.1.get v.2.1).1 - 200 = (g.1.get u.2.1).1 := by omega
    rw [eidx, e3] at g0
    cases g0
    refine va_astq (r := yq) hx hb hK hP hD hSS v.2.1 t0 u.2.1 (g.1.get u.2.1).1 hj g2 hj2 e3 hin hd (fun H1 locs1 hP1 hD1 hS1 => ?_)
    have hX1 := abX.via hj hP1
    exact hnx _ _ _ _ r h8 (fun _ q => q) H1 locs1 _ A _ (hH.put hK hC hj hP1 hD1 hS1 (abCs.putQ (y := yq) hX1 hcell.1 (by omega) (by rw [eidx]; exact e3) g2 g3 g4 hlt (gu.mono hX1))) (hX.tr hX1) (hL.mono hX1) (hS'.mono hX1)
