/-! rows copied; texts -/
noncomputable def avMem (r : Nat) (l : List Nat) : Bool := List.rec false (fun x _ ih => abIf (Nat.beq x r) true ih) l
theorem avMem_f {r : Nat} : ∀ {l : List Nat}, avMem r l = false → ¬ r ∈ l
  | [], _ => fun h => by cases h
  | x :: l, h => fun hm => by
    have h' : abIf (Nat.beq x r) true (avMem r l) = false := h
    cases q : Nat.beq x r with
    | true => rw [q, abIf_t rfl] at h'; cases h'
    | false =>
      rw [q, abIf_f rfl] at h'
      rcases List.mem_cons.mp hm with e | e
      · exact abBeq_f q e.symm
      · exact avMem_f h' e
noncomputable def avSub1 (c : Nat) (x y : avSi) : Bool := abIf (Nat.beq x.1 y.1) (abIf (Nat.beq x.1 (abIf (Nat.beq c 101) 1 0)) (abIf (aiLe y.2.1 x.2.1) (abIf (aiLe x.2.2 y.2.2) (abIf (Nat.beq c 103) (abIf (aiLe 0 x.2.1) (aiLe x.2.2 1) false) true) false) false) false) false
noncomputable def avLf (c : Nat) (t1 t2 : Lean.RArray avSi) (k : Bool) : Bool := Lean.RArray.rec (fun x => Lean.RArray.rec (fun y => abIf (avSub1 c x y) k false) (fun _ _ _ _ _ => false) t2) (fun _ _ _ _ _ => false) t1
noncomputable def avDr (g : Nat) (l : List avK) : List avK := List.rec [] (fun k _ ih => abIf (Nat.beq k.1 g) ih (k :: ih)) l
noncomputable def avCp1 (RT : Lean.RArray avRg) (CY : avCyG) (s : avS) (g1 g2 : Nat) (n d q : afF) (k : Bool) : Bool :=
  abIf (Nat.beq (RT.get g1).1 (RT.get g2).1) (abIf (abIf (Nat.beq (RT.get g1).1 100) true (abIf (Nat.beq (RT.get g1).1 101) true (Nat.beq (RT.get g1).1 103))) (avLf (RT.get g1).1 (RT.get g1).2.2 (RT.get g2).2.2 (abIf (avMem g2 CY.2.1) false
    (abIf (avGe s n) (abIf (avGe s d) (abIf (avGe s q) (abIf (avGe s (afSub (afSub ([], ((RT.get g1).2.1 : Int)) q) n)) (abIf (avGe s (afSub (afSub ([], ((RT.get g2).2.1 : Int)) d) n)) k false) false) false) false) false))) false) false
noncomputable def avOcp (RT : Lean.RArray avRg) (CY : avCyG) : avPo := fun nx _ pc ls st s => av2 st fun vn vd s1 => av2 s1 fun rd vs s2 => avHd s2 fun rs r => avFo 0 vn fun n => avFo 0 vd fun d => avFo 0 vs fun q => avRf rd fun g2 _ => avRf rs fun g1 _ =>
  avCp1 RT CY s g1 g2 n d q (abIf (Nat.ble (avSm r) 8) (nx (pc + 3) ls r (s.1, avDr g2 s.2)) false)
theorem avDr_ok {g : Nat} : ∀ {l : List avK} {k : avK}, k ∈ avDr g l → k ∈ l ∧ ¬ k.1 = g
  | [], _, h => by cases h
  | x :: l, k, h => by
    have h' : k ∈ abIf (Nat.beq x.1 g) (avDr g l) (x :: avDr g l) := h
    cases q : Nat.beq x.1 g with
    | true =>
      rw [q, abIf_t rfl] at h'
      obtain ⟨h1, h2⟩ := avDr_ok h'
      exact ⟨List.mem_cons_of_mem _ h1, h2⟩
    | false =>
      rw [q, abIf_f rfl] at h'
      rcases List.mem_cons.mp h' with e | e
      · subst e
        exact ⟨List.mem_cons_self, abBeq_f q⟩
      · obtain ⟨h1, h2⟩ := avDr_ok e
        exact ⟨List.mem_cons_of_mem _ h1, h2⟩
theorem avLf_ok {c : Nat} {t1 t2 : Lean.RArray avSi} {k : Bool} (h : avLf c t1 t2 k = true) : k = true ∧ ∀ i j : Nat, avSub1 c (t1.get i) (t2.get j) = true := by
  cases t1 with
  | branch p a b => cases h
  | leaf x =>
    cases t2 with
    | branch p a b => cases h
    | leaf y =>
      obtain ⟨h1, h2⟩ := abIf_and (show abIf (avSub1 c x y) k false = true from h)
      exact ⟨h2, fun _ _ => h1⟩
theorem avSub1_ok {RG : avRJ} {ws : va_W} {c : Nat} {x y : avSi} {v : Value} (h : avSub1 c x y = true) (hm : avM RG ws x v) : avM RG ws y v := by
  obtain ⟨h1, h2⟩ := abIf_and h
  obtain ⟨h3, h4⟩ := abIf_and h2
  obtain ⟨h5, h6⟩ := abIf_and h4
  obtain ⟨h7, -⟩ := abIf_and h6
  obtain ⟨t, a, b⟩ := x
  obtain ⟨t', a', b'⟩ := y
  have e1 : t = t' := abBeq h1
  subst e1
  have e5 := aiLe_ok h5
  have e7 := aiLe_ok h7
  have e3 : t = abIf (Nat.beq c 101) 1 0 := abBeq h3
  cases q : Nat.beq c 101 with
  | true =>
    rw [q, abIf_t rfl] at e3
    subst e3
    obtain ⟨y, rfl, y1, y2⟩ := hm
    exact ⟨y, rfl, Int.le_trans e5 y1, Int.le_trans y2 e7⟩
  | false =>
    rw [q, abIf_f rfl] at e3
    subst e3
    obtain ⟨y, rfl, y1, y2⟩ := hm
    exact ⟨y, rfl, Int.le_trans e5 y1, Int.le_trans y2 e7⟩
theorem avSub1_z {RG : avRJ} {ws : va_W} {x y : avSi} {v : Int32} (h : avSub1 103 x y = true) (hm : avM RG ws x (.int v)) : 0 ≤ v.toInt ∧ v.toInt ≤ 1 := by
  obtain ⟨h1, h2⟩ := abIf_and h
  obtain ⟨h3, h4⟩ := abIf_and h2
  obtain ⟨h5, h6⟩ := abIf_and h4
  obtain ⟨h7, h8⟩ := abIf_and h6
  obtain ⟨h9, h10⟩ := abIf_and (show abIf (aiLe 0 x.2.1) (aiLe x.2.2 1) false = true from h8)
  obtain ⟨t, a, b⟩ := x
  have e3 : t = 0 := abBeq h3
  subst e3
  obtain ⟨y, hy, y1, y2⟩ := hm
  cases hy
  have := aiLe_ok h9
  have := aiLe_ok h10
  exact ⟨by show 0 ≤ v.toInt; have q1 : a ≤ v.toInt := y1; have q2 : (0 : Int) ≤ a := aiLe_ok h9; omega, by have q1 : v.toInt ≤ b := y2; have q2 : b ≤ (1 : Int) := aiLe_ok h10; omega⟩
theorem avNot0 {y : Int32} (h : 0 ≤ y.toInt) : ¬ y < 0 := by
  intro q
  have := Int32.lt_iff_toInt_lt.mp q
  have e : (0 : Int32).toInt = 0 := rfl
  omega
theorem avCs1.len {tys : List (ClassId × FieldType)} {RG : avRJ} {ws : va_W} {q : Option (Nat × va_E)} {c : avRg} (h : avCs1 tys RG ws q c) (hc : 100 ≤ c.1 ∧ c.1 ≤ 103) : c.2.1 ≤ 65536 := by
  rcases (show c.1 = 100 ∨ c.1 = 101 ∨ c.1 = 102 ∨ c.1 = 103 by omega) with e | e | e | e
  · obtain ⟨-, -, -, -, -, -, h3, -⟩ := h.2.1 .int (by rw [e]; rfl)
    exact h3
  · obtain ⟨-, -, -, -, -, -, h3, -⟩ := h.2.2.1 e
    exact h3
  · obtain ⟨-, -, -, -, -, -, h3, -⟩ := h.2.1 .byte (by rw [e]; rfl)
    exact h3
  · obtain ⟨-, -, -, -, -, -, h3, -⟩ := h.2.1 .boolean (by rw [e]; rfl)
    exact h3
theorem avS77 {RT : Lean.RArray avRg} {RG : avRJ} {CY : avCyG} (hy : avCyOk RT RG CY) : avOk RT RG 77 (avOcp RT CY) := by
  intro D z sb w0 r0 p l ev R s m args below meth c cc cs Q k d nx e pc ls st q hF hE hop hpc hnx h
  obtain ⟨hx, hb, hml, hown, hts, hnm, hz, hR3, hR4⟩ := hF
  obtain ⟨o, pc', a1, a2, x, ps⟩ := e
  have ho : o = 77 := hop
  have hp : pc' = pc := hpc
  subst ho; subst hp
  have hd := abEt_dec hE (show ¬ (77 : Nat) = 85 by decide) rfl
  obtain ⟨vn, vd, s1, rfl, h0⟩ := av2_some h
  obtain ⟨rd, vs, s2, rfl, h1⟩ := av2_some (show av2 s1 _ = true from h0)
  obtain ⟨rs, rr, rfl, h2⟩ := avHd_some (show avHd s2 _ = true from h1)
  clear h h0 h1
  obtain ⟨kn, h3⟩ := avFo_some h2
  obtain ⟨kd, h4⟩ := avFo_some h3
  obtain ⟨ks, h5⟩ := avFo_some h4
  obtain ⟨krd, h6⟩ := avRf_some (show avRf rd _ = true from h5)
  obtain ⟨krs, h7⟩ := avRf_some h6
  intro rh H locs ws A xs hH hX hL hS
  obtain ⟨x1, xr1, rfl, g1, x2, xr2, rfl, g2, x3, xr3, rfl, g3, x4, xr4, rfl, g4, x5, xr, rfl, g5, hS'⟩ := hS
  obtain ⟨dn, yn, rfl, en⟩ := avGv_i g1 kn
  obtain ⟨dd, yd, rfl, ed⟩ := avGv_i g2 kd
  obtain ⟨ds, ys, rfl, es⟩ := avGv_i g4 ks
  obtain ⟨-, jd, a, e1, hjd, rfl, erd, ecd⟩ := avGv_r g3 krd
  obtain ⟨-, js, a0, e0, hjs, rfl, ers, ecs⟩ := avGv_r g5 krs
  rw [← erd, ← ers] at h7
  obtain ⟨q1, h8⟩ := abIf_and h7
  obtain ⟨q2, h9⟩ := abIf_and h8
  obtain ⟨h10, hsub⟩ := avLf_ok h9
  have hgd : avMem (RG.1 jd) CY.2.1 = false := by
    cases qq : avMem (RG.1 jd) CY.2.1 with
    | false => rfl
    | true => rw [qq, abIf_t rfl] at h10; cases h10
  rw [hgd, abIf_f rfl] at h10
  obtain ⟨b1, h11⟩ := abIf_and h10
  obtain ⟨b2, h12⟩ := abIf_and h11
  obtain ⟨b3, h13⟩ := abIf_and h12
  obtain ⟨b4, h14⟩ := abIf_and h13
  obtain ⟨b5, h15⟩ := abIf_and h14
  obtain ⟨b6, h16⟩ := abIf_and h15
  obtain ⟨⟨tys, hK, hC, hlen⟩, hP, hD, hSS, hso, hkn⟩ := id hH
  have b1 := avGe_ok hso dn b1
  have b2 := avGe_ok hso dd b2
  have b3 := avGe_ok hso ds b3
  have b4 := avGe_ok hso (afSub_D (afSub_D (f := ([], ((RT.get (RG.1 js)).2.1 : Int))) (afNil_D rh) ds) dn) b4
  have b5 := avGe_ok hso (afSub_D (afSub_D (f := ([], ((RT.get (RG.1 jd)).2.1 : Int))) (afNil_D rh) dd) dn) b5
  rw [afSub_V, afSub_V, afK_V] at b4 b5
  have hsum := Nat.le_trans (avSm_ok hS') (abBle b6)
  have ecode := abBeq q1
  have hcd := hC jd (List.getElem?_eq_some_iff.mp hjd).1
  have hcs := hC js (List.getElem?_eq_some_iff.mp hjs).1
  have hAsz : c.maxLocals = A.size := by
    obtain ⟨l1, lv, l2, l3⟩ := hL
    exact l2.1.symm
  have w1 := hts _ (hE.2.1 (.methodLink (abOwn k) x arraycopyName) List.mem_cons_self)
  have w2 := hts _ (hE.2.1 (.native arraycopyName) (List.mem_cons_of_mem _ List.mem_cons_self))
  have w3 := hts _ (hE.2.1 (.static arraycopyName) (List.mem_cons_of_mem _ (List.mem_cons_of_mem _ List.mem_cons_self)))
  have w4 := hts _ (hE.2.1 (.initialized "java/lang/System") (List.mem_cons_of_mem _ (List.mem_cons_of_mem _ (List.mem_cons_of_mem _ List.mem_cons_self))))
  have hloc : (xr.map fun v => v.category).sum + (nativeFrameWords "java/lang/System" "arraycopy" 5 + 11) ≤ R.locals := by
    have h1 := abNatW
    have h2 : 60 * 6 ≤ 60 * (d + 6) := Nat.mul_le_mul_left 60 (Nat.le_add_left 6 d)
    have h3 := Nat.le_trans h2 hR4
    generalize (xr.map fun v => v.category).sum = u at *
    generalize nativeFrameWords "java/lang/System" "arraycopy" 5 = w at *
    generalize R.locals = v at *
    clear hlen hcd hcs hC hR4 h2
    have h4 : 60 ≤ v := Nat.le_trans (by decide) h3
    omega
  have hfr : 1 ≤ R.frames := by clear hlen hcd hcs hC; omega
  have cn := abClamp (y := yn)
  have cd := abClamp (y := yd)
  have cs' := abClamp (y := ys)
  have fin : ∀ (en1 : va_E) (H1 : Heap) (locs1 : List Loc), va_P D abCls (ws.set jd (a, en1)) H1 → va_D (fun q : Nat => z ≤ q) (ws.set jd (a, en1)) → va_S (fun q : Nat => z ≤ q) s.heap H1 locs1 → avCs1 tys RG (ws.set jd (a, en1)) (some (a, en1)) (RT.get (RG.1 jd)) → W p l ev R s m args below meth c H1 locs1 cc cs Q (F0 m (pc' + 3) A xr) := by
    intro en1 H1 locs1 hP1 hD1 hS1 hc1
    have hX1 : abX ws (ws.set jd (a, en1)) := abX.set hjd
    refine hnx _ _ _ _ h16 rh H1 locs1 _ A _ (hH.put hK hC hjd hP1 hD1 hS1 hc1 ⟨fun k hk => ?_, hy.2 ws jd a e1 en1 hjd hlen.2.1 (fun i hi => absurd (Or.inl (avMem_f hgd)) hi)⟩) (hX.tr hX1) (hL.mono hX1 (afLe.rf rh)) (hS'.mono hX1 (afLe.rf rh))
    obtain ⟨k1, k2⟩ := avDr_ok hk
    obtain ⟨d1, d2, j', i', a', e', x', y1, y2, y3, y4, y5, y6⟩ := hkn k k1
    have hjj : ¬ j' = jd := fun qq => k2 (by rw [← y2, qq])
    exact ⟨d1, d2, j', i', a', e', x', y1, y2, y3, by rw [List.getElem?_set_ne (Ne.symm hjj)]; exact y4, y5, y6.mono hX1 (afLe.rf rh)⟩
  have l1 : (RT.get (RG.1 js)).2.1 ≤ 65536 ∧ (RT.get (RG.1 jd)).2.1 ≤ 65536 := by
    have : 100 ≤ (RT.get (RG.1 js)).1 ∧ (RT.get (RG.1 js)).1 ≤ 103 := by
      rcases abIf_or q2 with qq | qq
      · have := abBeq qq; omega
      · rcases abIf_or qq with qq | qq
        · have := abBeq qq; omega
        · have := abBeq qq; omega
    exact ⟨hcs.len this, hcd.len (by rw [← ecode]; exact this)⟩
  have i1 : ys.toNatClampNeg + yn.toNatClampNeg ≤ (RT.get (RG.1 js)).2.1 := by clear hlen hcd hcs hC; omega
  have i2 : yd.toNatClampNeg + yn.toNatClampNeg ≤ (RT.get (RG.1 jd)).2.1 := by clear hlen hcd hcs hC; omega
  have ints : ∀ ty : FieldType, abTyA (RT.get (RG.1 js)).1 = some ty → refKind ty = false → (∀ v : Int32, (∃ i j : Nat, avM RG ws ((RT.get (RG.1 js)).2.2.get i) (.int v) ∧ avSub1 (RT.get (RG.1 js)).1 ((RT.get (RG.1 js)).2.2.get i) ((RT.get (RG.1 jd)).2.2.get j) = true) → fits ty (.int v) = true) → W p l ev R s m args below meth c H locs cc cs Q (F0 m pc' A (.int yn :: .int yd :: .ref a :: .int ys :: .ref a0 :: xr)) := by
    intro ty hty hrk hft
    obtain ⟨a', cA, f, t0, z1, z2, z3, z4⟩ := hcd.2.1 ty (by rw [← ecode]; exact hty)
    rw [hjd] at z1
    cases z1
    obtain ⟨a2', cA2, f2, t2, z1', z2', z3', z4'⟩ := hcs.2.1 ty hty
    rw [hjs] at z1'
    cases z1'
    refine va_copyi hx hb hAsz hown w1 w2 w3 w4 hK hP hD hSS js jd t2 t0 hjs hjd z2' z2 hrk (avNot0 (by rw [es]; exact b3)) (avNot0 (by rw [ed]; exact b2)) (avNot0 (by rw [en]; exact b1)) i1 i2 (fun i hi => hft _ ⟨ys.toNatClampNeg + i, 0, z4' _ (by clear hlen hcd hcs hC; omega), hsub _ _⟩) hfr hloc hd (fun H1 locs1 hP1 hD1 hS1 => fin _ H1 locs1 hP1 hD1 hS1 ?_)
    have hX1 := abX.via hjd hP1
    have hty' : abTyA (RT.get (RG.1 jd)).1 = some ty := by rw [← ecode]; exact hty
    have hcode := abTyA_c hty'
    refine ⟨fun hc => ?_, fun ty' ht => ?_, fun hc => ?_, fun hc => ?_⟩
    · exfalso; clear hlen hcd hcs hC; omega
    · rw [hty'] at ht
      cases ht
      refine ⟨a, cA, _, t0, rfl, z2, z3, fun kx hkx => ?_⟩
      unfold va_cpy
      by_cases hin : yd.toNatClampNeg ≤ kx ∧ kx < yd.toNatClampNeg + yn.toNatClampNeg
      · rw [if_pos hin]
        exact (avSub1_ok (hsub _ kx) (z4' _ (by clear hlen hcd hcs hC; omega))).mono hX1
      · rw [if_neg hin]
        exact (z4 kx hkx).mono hX1
    · exfalso; clear hlen hcd hcs hC; omega
    · exfalso; clear hlen hcd hcs hC; omega
  rcases abIf_or q2 with qq | qq
  · have ec := abBeq qq
    exact ints .int (by rw [ec]; rfl) rfl (fun v _ => rfl)
  · rcases abIf_or qq with qq | qq
    · have ec := abBeq qq
      obtain ⟨a', cA, f, t0, z1, z2, z3, z4⟩ := hcd.2.2.1 (by rw [← ecode]; exact ec)
      rw [hjd] at z1
      cases z1
      obtain ⟨a2', cA2, f2, t2, z1', z2', z3', z4'⟩ := hcs.2.2.1 ec
      rw [hjs] at z1'
      cases z1'
      refine va_copyl hx hb hAsz hown w1 w2 w3 w4 hK hP hD hSS js jd t2 t0 hjs hjd z2' z2 rfl (avNot0 (by rw [es]; exact b3)) (avNot0 (by rw [ed]; exact b2)) (avNot0 (by rw [en]; exact b1)) i1 i2 (fun i hi => rfl) hfr hloc hd (fun H1 locs1 hP1 hD1 hS1 => fin _ H1 locs1 hP1 hD1 hS1 ?_)
      have hX1 := abX.via hjd hP1
      refine ⟨fun hc => ?_, fun ty' ht => ?_, fun hc => ?_, fun hc => ?_⟩
      · exfalso; clear hlen hcd hcs hC; omega
      · have := abTyA_c ht
        exfalso; clear hlen hcd hcs hC; omega
      · refine ⟨a, cA, _, t0, rfl, z2, z3, fun kx hkx => ?_⟩
        unfold va_cpy
        by_cases hin : yd.toNatClampNeg ≤ kx ∧ kx < yd.toNatClampNeg + yn.toNatClampNeg
        · rw [if_pos hin]
          exact (avSub1_ok (hsub _ kx) (z4' _ (by clear hlen hcd hcs hC; omega))).mono hX1
        · rw [if_neg hin]
          exact (z4 kx hkx).mono hX1
      · exfalso; clear hlen hcd hcs hC; omega
    · have ec := abBeq qq
      refine ints .boolean (by rw [ec]; rfl) rfl (fun v hv => ?_)
      obtain ⟨i, j, m1, m2⟩ := hv
      rw [ec] at m2
      obtain ⟨v1, v2⟩ := avSub1_z m2 m1
      rcases ab01 v1 v2 with rfl | rfl
      · rfl
      · rfl
/-! a text, loaded -/
theorem avS93 {RT : Lean.RArray avRg} {RG : avRJ} {k : Nat} {e : abEy} {tx : String} (hd : decode (abBy k) e.2.1 = .ok (.ldc e.2.2.2.2.1, 2)) (ht : abSr[e.2.2.1]? = some (abOwn k, e.2.2.2.2.1, tx)) : avOkE RT RG k e (avOldS 2) := by
  intro D z sb w0 r0 p l ev R s m args below meth c cc cs Q d nx pc ls st q hF hpc hnx _ h
  obtain ⟨hx, hb, hml, hown, -⟩ := hF
  obtain ⟨o, pc', a1, a2, x, ps⟩ := e
  have hp : pc' = pc := hpc
  subst hp
  intro rh H locs ws A xs hH hX hL hS
  obtain ⟨⟨tys, hK, hC, hlen⟩, -⟩ := id hH
  exact va_ldcS hx hb hown (hlen.2.2.2.1 _ _ ht) hd (hnx _ _ _ _ h rh H locs ws A _ hH hX hL ⟨_, _, rfl, ⟨afNil_D rh, rfl⟩, hS⟩)
theorem avS94 {RT : Lean.RArray avRg} {RG : avRJ} {k : Nat} {e : abEy} {tx : String} (hd : decode (abBy k) e.2.1 = .ok (.ldc_w e.2.2.2.2.1, 3)) (ht : abSr[e.2.2.1]? = some (abOwn k, e.2.2.2.2.1, tx)) : avOkE RT RG k e (avOldS 3) := by
  intro D z sb w0 r0 p l ev R s m args below meth c cc cs Q d nx pc ls st q hF hpc hnx _ h
  obtain ⟨hx, hb, hml, hown, -⟩ := hF
  obtain ⟨o, pc', a1, a2, x, ps⟩ := e
  have hp : pc' = pc := hpc
  subst hp
  intro rh H locs ws A xs hH hX hL hS
  obtain ⟨⟨tys, hK, hC, hlen⟩, -⟩ := id hH
  have k := hnx _ _ _ _ h rh H locs ws A _ hH hX hL ⟨_, _, rfl, ⟨afNil_D rh, rfl⟩, hS⟩
  obtain ⟨hZ1, hZ2⟩ := hlen.2.2.2.1 _ _ ht
  intro T hT X
  obtain ⟨t, a1, b1⟩ := k T hT X
  exact ⟨t, X.ldcStringW hx hown (text := tx) hZ1 hZ2 (g := F0 m pc' A xs) rfl (by rw [hb]; exact hd) t a1, b1⟩
