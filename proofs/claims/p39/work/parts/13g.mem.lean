/-! fields, written -/
theorem avCs1.putF {tys : List (ClassId × FieldType)} {RG : avRJ} {ws ws' : va_W} {c : avRg} {a i : Nat} {fs : List Value} {y : vw_C} {x : Value} (hx : abX ws ws') (hc : c.1 ≤ 90) (hl : fs.length = c.2.1) (hq : abCls[c.1]? = some y) (hn : y.2.2 = c.2.1) (hg : ∀ (k : Nat) (x : Value), fs[k]? = some x → avM RG ws (c.2.2.get k) x) (gu : avM RG ws (c.2.2.get i) x) : avCs1 tys RG ws' (some (a, .inr (c.1, fs.set i x))) c := by
  refine ⟨fun _ => ?_, fun ty' h => ?_, fun h => ?_, fun h => ?_⟩
  · refine ⟨a, fs.set i x, y, rfl, by rw [List.length_set]; exact hl, hq, hn, fun k xx hk => ?_⟩
    have hkl : k < (fs.set i x).length := (List.getElem?_eq_some_iff.mp hk).1
    by_cases e : i = k
    · subst e
      rw [List.length_set] at hkl
      rw [List.getElem?_set_self hkl] at hk
      cases hk
      exact gu.mono hx
    · rw [List.getElem?_set_ne e] at hk
      exact (hg k xx hk).mono hx
  · have := abTyA_c (show abTyA c.1 = some ty' from h)
    omega
  · have : c.1 = 101 := h
    omega
  · have : 200 ≤ c.1 := h
    omega
theorem avPf {RT : Lean.RArray avRg} {RG : avRJ} {CL : List avCl} {CY : avCyG} {op : Nat} {z : Bool} {T : FieldType → Prop} (hc : avClOk RT CL) (hy : avCyOk RT RG CY) (h85 : ¬ op = 85) (hins : ∀ (pc a1 a2 x : Nat) (ps : List Nat), abIns (op, pc, a1, a2, x, ps) = some (.putfield x, 3)) (hwd : ∀ (k pc a1 a2 x : Nat) (ps : List Nat), abWds k (op, pc, a1, a2, x, ps) = match abCls[a1]? with | some q => [.fieldLink (abOwn k) x q.1 (q.2.1 a2).2.1 (q.2.1 a2).2.2.1] | none => []) (hsm : ∀ (k pc a1 a2 x : Nat) (ps : List Nat), abSmk k (op, pc, a1, a2, x, ps) = true → ∃ q, abCls[a1]? = some q ∧ a2 < q.2.2 ∧ a1 < 90 ∧ T (abTyp a1 a2) ∧ ((q.2.1 a2).2.2.2 = true → (abNm k).name = "<init>" ∧ abOwn k = q.1)) (hFt : ∀ (y : Int32) (ty : FieldType), T ty → (z = true → 0 ≤ y.toInt ∧ y.toInt ≤ 1) → narrow ty (.int y) = .int y ∧ fits ty (.int y) = true) : avOk RT RG op (avOpf RT CL CY z) := by
  intro D z0 sb w0 r0 p l ev R s m args below meth c cc cs Q k d nx e pc ls st q hF hE hop hpc hnx h
  obtain ⟨hx, hb, hml, hown, hts, hnm, hz, hR3, hR4⟩ := hF
  obtain ⟨o, pc', a1, a2, x, ps⟩ := e
  have ho : o = op := hop
  have hp : pc' = pc := hpc
  subst ho; subst hp
  have hd := abEt_dec hE h85 (hins _ _ _ _ _)
  obtain ⟨q0, hq, q1, q2, q3, q4⟩ := hsm _ _ _ _ _ _ hE.2.2
  have hwd1 := hE.2.1
  rw [hwd, hq] at hwd1
  have hw := hts _ (hwd1 _ List.mem_cons_self)
  obtain ⟨c1, c2, c3, c4⟩ := abCls_ok a1 q0 hq
  obtain ⟨u, v, rr, rfl, h0⟩ := av2_some h
  obtain ⟨ku, h1⟩ := avFo_some h0
  intro rh H locs ws A xs hH hX hL hS
  obtain ⟨x0, xr, rfl, gu, x1, xr', rfl, gv, hS'⟩ := hS
  obtain ⟨du, yv, rfl, eu⟩ := avGv_i gu ku
  obtain ⟨k1, h2⟩ := abIf_and h1
  obtain ⟨d1, j, a, en, hj, rfl, er, ec⟩ := avGv_r gv (abBeq k1)
  obtain ⟨h3, h4⟩ := abIf_and h2
  rw [← er] at h3 h4
  obtain ⟨h5, h6⟩ := abIf_and h4
  have ec1 : (RT.get (RG.1 j)).1 = a1 := abBeq h3
  have hso := hH.2.2.2.2.1
  have hzz : z = true → 0 ≤ yv.toInt ∧ yv.toInt ≤ 1 := fun hz1 => by
    rw [hz1, abIf_t rfl] at h5
    obtain ⟨b1, b2⟩ := abIf_and h5
    have b1 := avGe_ok hso du b1
    have b2 := avGe_ok hso (afSub_D (f := ([], 1)) (afNil_D rh) du) b2
    rw [afSub_V, afK_V] at b2
    omega
  obtain ⟨n1, n2⟩ := hFt yv (abTyp a1 a2) q3 hzz
  obtain ⟨⟨tys, hK, hC, hlen⟩, hP, hD, hSS, -, hkn⟩ := id hH
  have hcell := hC j (List.getElem?_eq_some_iff.mp hj).1
  obtain ⟨a', fs, y, e1, e2, e3, e4, e5⟩ := hcell.1 (by omega)
  rw [hj] at e1
  cases e1
  have hj0 := hj
  have e3' := e3
  rw [ec1] at e3 hj
  rw [hq] at e3
  cases e3
  have hal : a2 < fs.length := by omega
  obtain ⟨l1, h7, hm, hk⟩ := avWrite_ok (i := a2) (x := .int yv) (cf := v.2.2) (sf := ([], (a2 : Int))) (u := u) (e1 := .inr ((RT.get (RG.1 j)).1, fs.set a2 (.int yv))) hc hy hH hj0 d1 ec (afNil_D rh) (afC_V rh _).symm (List.getElem?_set_self hal) (fun i' hi' => List.getElem?_set_ne (Ne.symm hi')) (by omega) gu h6
  have fin : ∀ (H1 : Heap) (locs1 : List Loc), va_P D abCls (ws.set j (a, .inr (a1, fs.set a2 (.int yv)))) H1 → va_D (fun q : Nat => z0 ≤ q) (ws.set j (a, .inr (a1, fs.set a2 (.int yv)))) → va_S (fun q : Nat => z0 ≤ q) s.heap H1 locs1 → W p l ev R s m args below meth c H1 locs1 cc cs Q (F0 m (pc' + 3) A xr') := by
    intro H1 locs1 hP1 hD1 hS1
    rw [← ec1] at hP1 hD1
    have hX1 := abX.via hj0 hP1
    exact hnx _ _ _ _ h7 rh H1 locs1 _ A _ (hH.put hK hC hj0 hP1 hD1 hS1 (avCs1.putF hX1 (by omega) e2 e3' e4 e5 hm) hk) (hX.tr hX1) (hL.mono hX1 (afLe.rf rh)) (hS'.mono hX1 (afLe.rf rh))
  by_cases hf : (q0.2.1 a2).2.2.2 = true
  · obtain ⟨f1, f2⟩ := q4 hf
    exact va_putF (D := D) (cl := abCls) (tys := tys) (ws := ws) (ci := a1) (v := .int yv) (ty := abTyp a1 a2) (C := q0.1) (T := q0.2.1) (N := q0.2.2) (ref := q0.1) hx hb hts c1 (abTyp a1) c2 c3 hown hK hP hD hSS j hj hq a2 q1 hw (by rw [c4 a2 q1]; exact fun _ h9 => h9) hf (by rw [hnm]; exact f1) (by rw [c4 a2 q1]; exact f2.symm) (c2 a2 q1) n1 n2 hal hd fin
  · exact va_put (D := D) (cl := abCls) (tys := tys) (ws := ws) (ci := a1) (v := .int yv) (ty := abTyp a1 a2) (C := q0.1) (T := q0.2.1) (N := q0.2.2) (ref := q0.1) hx hb hts c1 (abTyp a1) c2 c3 hown hK hP hD hSS j hj hq a2 q1 hw (by rw [c4 a2 q1]; exact fun _ h9 => h9) (by simpa using hf) (c2 a2 q1) n1 n2 hal hd fin
theorem avS61 {RT : Lean.RArray avRg} {RG : avRJ} {CL : List avCl} {CY : avCyG} (hc : avClOk RT CL) (hy : avCyOk RT RG CY) : avOk RT RG 61 (avOpf RT CL CY false) := by
  refine avPf (T := fun ty => ty = .int) hc hy (by decide) (fun _ _ _ _ _ => rfl) (fun _ _ _ _ _ _ => rfl) (fun k pc a1 a2 x ps h => ?_) (fun y ty ht _ => by subst ht; exact ⟨rfl, rfl⟩)
  have h' : (match abCls[a1]? with | some q => decide (a2 < q.2.2) && decide (a1 < 90) && decide (abTyp a1 a2 = .int) && (!(q.2.1 a2).2.2.2 || (decide ((abNm k).name = "<init>") && decide (abOwn k = q.1))) | none => false) = true := h
  cases hq : abCls[a1]? with
  | none => rw [hq] at h'; cases h'
  | some q =>
    rw [hq] at h'
    obtain ⟨h1, g4⟩ := Bool.and_eq_true_iff.mp h'
    obtain ⟨h2, g3⟩ := Bool.and_eq_true_iff.mp h1
    obtain ⟨g1, g2⟩ := Bool.and_eq_true_iff.mp h2
    refine ⟨q, rfl, of_decide_eq_true g1, of_decide_eq_true g2, of_decide_eq_true g3, fun hf => ?_⟩
    rw [hf] at g4
    obtain ⟨g5, g6⟩ := Bool.and_eq_true_iff.mp (show (decide ((abNm k).name = "<init>") && decide (abOwn k = q.1)) = true from g4)
    exact ⟨of_decide_eq_true g5, of_decide_eq_true g6⟩
theorem avS62 {RT : Lean.RArray avRg} {RG : avRJ} {CL : List avCl} {CY : avCyG} (hc : avClOk RT CL) (hy : avCyOk RT RG CY) : avOk RT RG 62 (avOpf RT CL CY true) := by
  refine avPf (T := fun ty => ty = .boolean) hc hy (by decide) (fun _ _ _ _ _ => rfl) (fun _ _ _ _ _ _ => rfl) (fun k pc a1 a2 x ps h => ?_) (fun y ty ht hz => ?_)
  · have h' : (match abCls[a1]? with | some q => decide (a2 < q.2.2) && decide (a1 < 90) && decide (abTyp a1 a2 = .boolean) && (!(q.2.1 a2).2.2.2 || (decide ((abNm k).name = "<init>") && decide (abOwn k = q.1))) | none => false) = true := h
    cases hq : abCls[a1]? with
    | none => rw [hq] at h'; cases h'
    | some q =>
      rw [hq] at h'
      obtain ⟨h1, g4⟩ := Bool.and_eq_true_iff.mp h'
      obtain ⟨h2, g3⟩ := Bool.and_eq_true_iff.mp h1
      obtain ⟨g1, g2⟩ := Bool.and_eq_true_iff.mp h2
      refine ⟨q, rfl, of_decide_eq_true g1, of_decide_eq_true g2, of_decide_eq_true g3, fun hf => ?_⟩
      rw [hf] at g4
      obtain ⟨g5, g6⟩ := Bool.and_eq_true_iff.mp (show (decide ((abNm k).name = "<init>") && decide (abOwn k = q.1)) = true from g4)
      exact ⟨of_decide_eq_true g5, of_decide_eq_true g6⟩
  · subst ht
    obtain ⟨z1, z2⟩ := hz rfl
    rcases ab01 z1 z2 with rfl | rfl
    · exact ⟨rfl, rfl⟩
    · exact ⟨rfl, rfl⟩
