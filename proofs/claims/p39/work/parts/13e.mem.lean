/-! fields and rows, read -/
theorem avS60 {RT : Lean.RArray avRg} {RG : avRJ} {CL : List avCl} (hc : avClOk RT CL) : avOk RT RG 60 (avOgf RT CL) := by
  intro D z sb w0 r0 p l ev R s m args below meth c cc cs Q k d nx e pc ls st q hF hE hop hpc hnx h
  obtain ⟨hx, hb, hml, hown, hts, hnm, hz, hR3, hR4⟩ := hF
  obtain ⟨o, pc', a1, a2, x, ps⟩ := e
  have ho : o = 60 := hop
  have hp : pc' = pc := hpc
  subst ho; subst hp
  have hd := abEt_dec hE (show ¬ (60 : Nat) = 85 by decide) rfl
  have hsm : (match abCls[a1]? with | some q => decide (a2 < q.2.2) && decide (a1 < 90) | none => false) = true := hE.2.2
  have hwd : ∀ w ∈ (match abCls[a1]? with | some q => [Jvm.Cond.fieldLink (abOwn k) x q.1 (q.2.1 a2).2.1 (q.2.1 a2).2.2.1] | none => []), w ∈ abTw := hE.2.1
  obtain ⟨v, rr, rfl, h0⟩ := avHd_some h
  intro rh H locs ws A xs hH hX hL hS
  obtain ⟨x0, xr, rfl, gv, hS'⟩ := hS
  obtain ⟨k1, h1⟩ := abIf_and h0
  obtain ⟨d1, j, a, en, hj, rfl, er, ec⟩ := avGv_r gv (abBeq k1)
  obtain ⟨h2, h3⟩ := abIf_and h1
  rw [← er] at h2 h3
  have ec1 : (RT.get (RG.1 j)).1 = a1 := abBeq h2
  cases hq : abCls[a1]? with
  | none => rw [hq] at hsm; cases hsm
  | some q0 =>
    rw [hq] at hsm hwd
    obtain ⟨q1, q2⟩ := Bool.and_eq_true_iff.mp hsm
    have q1 := of_decide_eq_true q1
    have q2 := of_decide_eq_true q2
    have hw := hts _ (hwd _ List.mem_cons_self)
    obtain ⟨c1, c2, c3, c4⟩ := abCls_ok a1 q0 hq
    obtain ⟨⟨tys, hK, hC, hlen⟩, hP, hD, hSS, hso, hkn⟩ := id hH
    have hcell := hC j (List.getElem?_eq_some_iff.mp hj).1
    obtain ⟨a', fs, y, e1, e2, e3, e4, e5⟩ := hcell.1 (by omega)
    rw [hj] at e1
    cases e1
    have hj0 := hj
    rw [ec1] at e3 hj
    rw [hq] at e3
    cases e3
    obtain ⟨xv, hxv⟩ : ∃ xv, fs[a2]? = some xv := ⟨_, List.getElem?_eq_getElem (by omega)⟩
    obtain ⟨rh', s', u, h4, hle, hH2, gu⟩ := avRead_ok (i := a2) (x := xv) (cf := v.2.2) (sf := ([], (a2 : Int))) hc hH hj0 d1 ec (afNil_D rh) (afC_V rh _).symm hxv (e5 a2 xv hxv) h3
    refine va_get (D := D) (cl := abCls) (tys := tys) (ws := ws) (ci := a1) (v := xv) (C := q0.1) (T := q0.2.1) (N := q0.2.2) (ref := q0.1) hx hb hts c1 hown hK hP j hj hq a2 q1 hw (by rw [c4 a2 q1]; exact fun _ h9 => h9) hxv hd ?_
    exact hnx _ _ _ _ h4 rh' H locs ws A _ hH2 (hX.nm hle) (hL.mono (abX.rf ws) hle) ⟨_, _, rfl, gu, hS'.mono (abX.rf ws) hle⟩
theorem avIx1_ok {rh : afR} {s : avS} {f : afF} {n : Nat} {k : Bool} (hs : afSo rh s.1) (d : afD rh f.1) (h : avIx1 s f n k = true) : k = true ∧ 0 ≤ afV rh f ∧ afV rh f < (n : Int) := by
  obtain ⟨h1, h2⟩ := abIf_and h
  obtain ⟨h3, h4⟩ := abIf_and h2
  have g1 := avGe_ok hs d h1
  have g2 := avGe_ok hs (afSub_D (f := ([], (n : Int) - 1)) (afNil_D rh) d) h3
  rw [afSub_V, afK_V] at g2
  exact ⟨h4, g1, by omega⟩
theorem avS64 {RT : Lean.RArray avRg} {RG : avRJ} {CL : List avCl} (hc : avClOk RT CL) : avOk RT RG 64 (avOal RT CL (fun n => Nat.beq n 100)) := by
  intro D z sb w0 r0 p l ev R s m args below meth c cc cs Q k d nx e pc ls st q hF hE hop hpc hnx h
  obtain ⟨hx, hb, hml, hown, hts, hnm, hz, hR3, hR4⟩ := hF
  obtain ⟨o, pc', a1, a2, x, ps⟩ := e
  have ho : o = 64 := hop
  have hp : pc' = pc := hpc
  subst ho; subst hp
  have hd := abEt_dec hE (show ¬ (64 : Nat) = 85 by decide) rfl
  obtain ⟨w, v, rr, rfl, h0⟩ := av2_some h
  obtain ⟨k0, h1⟩ := avFo_some h0
  intro rh H locs ws A xs hH hX hL hS
  obtain ⟨x0, xr, rfl, gw, x1, xr', rfl, gv, hS'⟩ := hS
  obtain ⟨d0, y, rfl, e0⟩ := avGv_i gw k0
  obtain ⟨k1, h2⟩ := abIf_and h1
  obtain ⟨d1, j, a, en, hj, rfl, er, ec⟩ := avGv_r gv (abBeq k1)
  obtain ⟨h3, h4⟩ := abIf_and h2
  rw [← er] at h3 h4
  obtain ⟨h5, i1, i2⟩ := avIx1_ok hH.2.2.2.2.1 d0 h4
  obtain ⟨⟨tys, hK, hC, hlen⟩, hP, hD, hSS, hso, hkn⟩ := id hH
  have hcell := hC j (List.getElem?_eq_some_iff.mp hj).1
  have hcl := abClamp (y := y)
  have hi : (y.toNatClampNeg : Int) = afV rh w.2.2 := by omega
  have hin : vp_in y (RT.get (RG.1 j)).2.1 := vp_in_iff.mpr ⟨by omega, by omega⟩
  have hlt : y.toNatClampNeg < (RT.get (RG.1 j)).2.1 := by omega
  obtain ⟨a', cA, f, t0, e1, e2, e3, e4⟩ := hcell.2.1 .int (by rw [abBeq h3]; rfl)
  rw [hj] at e1
  cases e1
  obtain ⟨rh', s', u, h6, hle, hH2, gu⟩ := avRead_ok (i := y.toNatClampNeg) (x := .int (f y.toNatClampNeg)) (cf := v.2.2) (sf := w.2.2) hc hH hj d1 ec d0 hi (if_pos hlt) (e4 _ hlt) h5
  refine va_iald hx hb hK hP j t0 hj e2 hin hd ?_
  exact hnx _ _ _ _ h6 rh' H locs ws A _ hH2 (hX.nm hle) (hL.mono (abX.rf ws) hle) ⟨_, _, rfl, gu, hS'.mono (abX.rf ws) hle⟩
theorem avS65 {RT : Lean.RArray avRg} {RG : avRJ} {CL : List avCl} (hc : avClOk RT CL) : avOk RT RG 65 (avOal RT CL (fun n => Nat.beq (n / 2) 51)) := by
  intro D z sb w0 r0 p l ev R s m args below meth c cc cs Q k d nx e pc ls st q hF hE hop hpc hnx h
  obtain ⟨hx, hb, hml, hown, hts, hnm, hz, hR3, hR4⟩ := hF
  obtain ⟨o, pc', a1, a2, x, ps⟩ := e
  have ho : o = 65 := hop
  have hp : pc' = pc := hpc
  subst ho; subst hp
  have hd := abEt_dec hE (show ¬ (65 : Nat) = 85 by decide) rfl
  obtain ⟨w, v, rr, rfl, h0⟩ := av2_some h
  obtain ⟨k0, h1⟩ := avFo_some h0
  intro rh H locs ws A xs hH hX hL hS
  obtain ⟨x0, xr, rfl, gw, x1, xr', rfl, gv, hS'⟩ := hS
  obtain ⟨d0, y, rfl, e0⟩ := avGv_i gw k0
  obtain ⟨k1, h2⟩ := abIf_and h1
  obtain ⟨d1, j, a, en, hj, rfl, er, ec⟩ := avGv_r gv (abBeq k1)
  obtain ⟨h3, h4⟩ := abIf_and h2
  rw [← er] at h3 h4
  obtain ⟨h5, i1, i2⟩ := avIx1_ok hH.2.2.2.2.1 d0 h4
  obtain ⟨⟨tys, hK, hC, hlen⟩, hP, hD, hSS, hso, hkn⟩ := id hH
  have hcell := hC j (List.getElem?_eq_some_iff.mp hj).1
  have hcl := abClamp (y := y)
  have hi : (y.toNatClampNeg : Int) = afV rh w.2.2 := by omega
  have hin : vp_in y (RT.get (RG.1 j)).2.1 := vp_in_iff.mpr ⟨by omega, by omega⟩
  have hlt : y.toNatClampNeg < (RT.get (RG.1 j)).2.1 := by omega
  rcases (show (RT.get (RG.1 j)).1 = 102 ∨ (RT.get (RG.1 j)).1 = 103 by have := abBeq h3; omega) with hcd | hcd
  · obtain ⟨a', cA, f, t0, e1, e2, e3, e4⟩ := hcell.2.1 .byte (by rw [hcd]; rfl)
    rw [hj] at e1
    cases e1
    obtain ⟨rh', s', u, h6, hle, hH2, gu⟩ := avRead_ok (i := y.toNatClampNeg) (x := .int (f y.toNatClampNeg)) (cf := v.2.2) (sf := w.2.2) hc hH hj d1 ec d0 hi (if_pos hlt) (e4 _ hlt) h5
    refine va_bald hx hb hK hP j t0 hj e2 hin hd ?_
    exact hnx _ _ _ _ h6 rh' H locs ws A _ hH2 (hX.nm hle) (hL.mono (abX.rf ws) hle) ⟨_, _, rfl, gu, hS'.mono (abX.rf ws) hle⟩
  · obtain ⟨a', cA, f, t0, e1, e2, e3, e4⟩ := hcell.2.1 .boolean (by rw [hcd]; rfl)
    rw [hj] at e1
    cases e1
    obtain ⟨rh', s', u, h6, hle, hH2, gu⟩ := avRead_ok (i := y.toNatClampNeg) (x := .int (f y.toNatClampNeg)) (cf := v.2.2) (sf := w.2.2) hc hH hj d1 ec d0 hi (if_pos hlt) (e4 _ hlt) h5
    refine va_zald hx hb hK hP j t0 hj e2 hin hd ?_
    exact hnx _ _ _ _ h6 rh' H locs ws A _ hH2 (hX.nm hle) (hL.mono (abX.rf ws) hle) ⟨_, _, rfl, gu, hS'.mono (abX.rf ws) hle⟩
theorem avS66 {RT : Lean.RArray avRg} {RG : avRJ} {CL : List avCl} (hc : avClOk RT CL) : avOk RT RG 66 (avOal RT CL (fun n => Nat.beq n 101)) := by
  intro D z sb w0 r0 p l ev R s m args below meth c cc cs Q k d nx e pc ls st q hF hE hop hpc hnx h
  obtain ⟨hx, hb, hml, hown, hts, hnm, hz, hR3, hR4⟩ := hF
  obtain ⟨o, pc', a1, a2, x, ps⟩ := e
  have ho : o = 66 := hop
  have hp : pc' = pc := hpc
  subst ho; subst hp
  have hd := abEt_dec hE (show ¬ (66 : Nat) = 85 by decide) rfl
  obtain ⟨w, v, rr, rfl, h0⟩ := av2_some h
  obtain ⟨k0, h1⟩ := avFo_some h0
  intro rh H locs ws A xs hH hX hL hS
  obtain ⟨x0, xr, rfl, gw, x1, xr', rfl, gv, hS'⟩ := hS
  obtain ⟨d0, y, rfl, e0⟩ := avGv_i gw k0
  obtain ⟨k1, h2⟩ := abIf_and h1
  obtain ⟨d1, j, a, en, hj, rfl, er, ec⟩ := avGv_r gv (abBeq k1)
  obtain ⟨h3, h4⟩ := abIf_and h2
  rw [← er] at h3 h4
  obtain ⟨h5, i1, i2⟩ := avIx1_ok hH.2.2.2.2.1 d0 h4
  obtain ⟨⟨tys, hK, hC, hlen⟩, hP, hD, hSS, hso, hkn⟩ := id hH
  have hcell := hC j (List.getElem?_eq_some_iff.mp hj).1
  have hcl := abClamp (y := y)
  have hi : (y.toNatClampNeg : Int) = afV rh w.2.2 := by omega
  have hin : vp_in y (RT.get (RG.1 j)).2.1 := vp_in_iff.mpr ⟨by omega, by omega⟩
  have hlt : y.toNatClampNeg < (RT.get (RG.1 j)).2.1 := by omega
  obtain ⟨a', cA, f, t0, e1, e2, e3, e4⟩ := hcell.2.2.1 (abBeq h3)
  rw [hj] at e1
  cases e1
  obtain ⟨rh', s', u, h6, hle, hH2, gu⟩ := avRead_ok (i := y.toNatClampNeg) (x := .long (f y.toNatClampNeg)) (cf := v.2.2) (sf := w.2.2) hc hH hj d1 ec d0 hi (if_pos hlt) (e4 _ hlt) h5
  refine va_lald hx hb hK hP j t0 hj e2 hin hd ?_
  exact hnx _ _ _ _ h6 rh' H locs ws A _ hH2 (hX.nm hle) (hL.mono (abX.rf ws) hle) ⟨_, _, rfl, gu, hS'.mono (abX.rf ws) hle⟩
theorem avS67 {RT : Lean.RArray avRg} {RG : avRJ} {CL : List avCl} (hc : avClOk RT CL) : avOk RT RG 67 (avOal RT CL (fun n => Nat.ble 200 n)) := by
  intro D z sb w0 r0 p l ev R s m args below meth c cc cs Q k d nx e pc ls st q hF hE hop hpc hnx h
  obtain ⟨hx, hb, hml, hown, hts, hnm, hz, hR3, hR4⟩ := hF
  obtain ⟨o, pc', a1, a2, x, ps⟩ := e
  have ho : o = 67 := hop
  have hp : pc' = pc := hpc
  subst ho; subst hp
  have hd := abEt_dec hE (show ¬ (67 : Nat) = 85 by decide) rfl
  obtain ⟨w, v, rr, rfl, h0⟩ := av2_some h
  obtain ⟨k0, h1⟩ := avFo_some h0
  intro rh H locs ws A xs hH hX hL hS
  obtain ⟨x0, xr, rfl, gw, x1, xr', rfl, gv, hS'⟩ := hS
  obtain ⟨d0, y, rfl, e0⟩ := avGv_i gw k0
  obtain ⟨k1, h2⟩ := abIf_and h1
  obtain ⟨d1, j, a, en, hj, rfl, er, ec⟩ := avGv_r gv (abBeq k1)
  obtain ⟨h3, h4⟩ := abIf_and h2
  rw [← er] at h3 h4
  obtain ⟨h5, i1, i2⟩ := avIx1_ok hH.2.2.2.2.1 d0 h4
  obtain ⟨⟨tys, hK, hC, hlen⟩, hP, hD, hSS, hso, hkn⟩ := id hH
  have hcell := hC j (List.getElem?_eq_some_iff.mp hj).1
  have hcl := abClamp (y := y)
  have hi : (y.toNatClampNeg : Int) = afV rh w.2.2 := by omega
  have hin : vp_in y (RT.get (RG.1 j)).2.1 := vp_in_iff.mpr ⟨by omega, by omega⟩
  have hlt : y.toNatClampNeg < (RT.get (RG.1 j)).2.1 := by omega
  obtain ⟨a', cA, f, t0, yc, e1, e0', e2, e3, e4⟩ := hcell.2.2.2 (abBle h3)
  rw [hj] at e1
  cases e1
  obtain ⟨rh', s', u, h6, hle, hH2, gu⟩ := avRead_ok (i := y.toNatClampNeg) (x := va_rf (f y.toNatClampNeg)) (cf := v.2.2) (sf := w.2.2) hc hH hj d1 ec d0 hi (if_pos hlt) (e4 _ hlt) h5
  refine va_aldq hx hb hK hP j t0 hj e2 hin hd ?_
  exact hnx _ _ _ _ h6 rh' H locs ws A _ hH2 (hX.nm hle) (hL.mono (abX.rf ws) hle) ⟨_, _, rfl, gu, hS'.mono (abX.rf ws) hle⟩
theorem avS68 {RT : Lean.RArray avRg} {RG : avRJ} : avOk RT RG 68 (avOlen RT) := by
  intro D z sb w0 r0 p l ev R s m args below meth c cc cs Q k d nx e pc ls st q hF hE hop hpc hnx h
  obtain ⟨hx, hb, hml, hown, hts, hnm, hz, hR3, hR4⟩ := hF
  obtain ⟨o, pc', a1, a2, x, ps⟩ := e
  have ho : o = 68 := hop
  have hp : pc' = pc := hpc
  subst ho; subst hp
  have hd := abEt_dec hE (show ¬ (68 : Nat) = 85 by decide) rfl
  obtain ⟨v, rr, rfl, h0⟩ := avHd_some h
  intro rh H locs ws A xs hH hX hL hS
  obtain ⟨x1, xr', rfl, gv, hS'⟩ := hS
  obtain ⟨k1, h1⟩ := abIf_and h0
  obtain ⟨d1, j, a, en, hj, rfl, er, ec⟩ := avGv_r gv (abBeq k1)
  obtain ⟨h3, h3b⟩ := abIf_and h1
  obtain ⟨h3c, h4⟩ := abIf_and h3b
  rw [← er] at h3 h3c h4
  obtain ⟨⟨tys, hK, hC, hlen⟩, hP, hD, hSS, hso, hkn⟩ := id hH
  have hcell := hC j (List.getElem?_eq_some_iff.mp hj).1
  have ec1 := abBle h3
  have ec2 := abBle h3c
  have fin : ∀ (t0 : Nat) (cA : ClassId) (xx : vp_A) (ty : FieldType), ws[j]? = some (a, .inl (cA, xx)) → tys[t0]? = some (cA, ty) → xx.1 = (RT.get (RG.1 j)).2.1 → (RT.get (RG.1 j)).2.1 ≤ 65536 → W p l ev R s m args below meth c H locs cc cs Q (F0 m pc' A (.ref a :: xr')) := by
    intro t0 cA xx ty g1 g2 g3 g4
    refine va_alen hx hb hK hP j t0 g1 g2 rfl hd ?_
    refine hnx _ _ _ _ h4 rh H locs ws A _ hH hX hL ⟨_, _, rfl, ⟨afNil_D rh, _, rfl, ?_⟩, hS'⟩
    rw [g3, abLenI g4]
    exact (afC_V rh _).symm
  rcases (show (RT.get (RG.1 j)).1 = 100 ∨ (RT.get (RG.1 j)).1 = 101 ∨ (RT.get (RG.1 j)).1 = 102 ∨ (RT.get (RG.1 j)).1 = 103 by omega) with q | q | q | q
  · obtain ⟨a', cA, f, t0, e1, e2, e3, e4⟩ := hcell.2.1 .int (by rw [q]; rfl)
    rw [hj] at e1
    cases e1
    exact fin t0 cA _ _ hj e2 rfl e3
  · obtain ⟨a', cA, f, t0, e1, e2, e3, e4⟩ := hcell.2.2.1 q
    rw [hj] at e1
    cases e1
    exact fin t0 cA _ _ hj e2 rfl e3
  · obtain ⟨a', cA, f, t0, e1, e2, e3, e4⟩ := hcell.2.1 .byte (by rw [q]; rfl)
    rw [hj] at e1
    cases e1
    exact fin t0 cA _ _ hj e2 rfl e3
  · obtain ⟨a', cA, f, t0, e1, e2, e3, e4⟩ := hcell.2.1 .boolean (by rw [q]; rfl)
    rw [hj] at e1
    cases e1
    exact fin t0 cA _ _ hj e2 rfl e3
