/-! arraycopy; and all of them -/
theorem abNatW : nativeFrameWords "java/lang/System" "arraycopy" 5 + 11 ≤ 52 := by decide +kernel
theorem abCpy0 {f g : Nat → Int32} {sp dp : Nat} : va_cpy f g sp dp 0 = g := by
  funext k
  unfold va_cpy
  rw [if_neg (by omega)]
theorem abS77 : abOk 77 abOcp := by
  intro D z sb sl rh xs0 w0 p l ev R s m args below meth c Q k d nx e pc ls st g r hF hE hop hpc hnx h
  obtain ⟨hx, hb, hml, hown, hts, hnm, hz, hR1, hR2, hR3, hR4, hlaw⟩ := hF
  obtain ⟨o, pc', a1, a2, x, ps⟩ := e
  have ho : o = 77 := hop
  have hp : pc' = pc := hpc
  subst ho; subst hp
  have hd := abEt_dec hE (show ¬ (77 : Nat) = 85 by decide) rfl
  obtain ⟨vn, s1, rfl, h0⟩ := abHd_some h
  obtain ⟨vdp, vrd, s2, rfl, h00⟩ := ab2_some (show ab2 s1 _ = some r from h0)
  obtain ⟨vsp, vrs, rr, rfl, h01⟩ := ab2_some (show ab2 s2 _ = some r from h00)
  clear h h0 h00
  intro H locs ws A xs hH hX hL hS
  obtain ⟨x1, xr1, rfl, g1, x2, xr2, rfl, g2, x3, xr3, rfl, g3, x4, xr4, rfl, g4, x5, xr, rfl, g5, hS'⟩ := hS
  obtain ⟨⟨tys, hK, hC⟩, hP, hD, hSS, hn, h4096, hwf, he⟩ := id hH
  obtain ⟨yn, rfl, n1, n2, h02⟩ := abLg_ok (show abLg vn g _ = some r from h01) he g1
  obtain ⟨yd, rfl, d1, d2, h03⟩ := abLg_ok h02 he g2
  obtain ⟨ys, rfl, s1', s2', h04⟩ := abLg_ok h03 he g4
  obtain ⟨a, en, h05, hjd, rfl⟩ := abWr_ok h04 g3
  obtain ⟨a0, en0, h06, hjs, rfl⟩ := abWr_ok h05 g5
  unfold abCp1 at h06
  obtain ⟨q1, h07⟩ := abIf_some h06
  obtain ⟨q2, h08⟩ := abIf_some h07
  obtain ⟨q3, h09⟩ := abIf_some h08
  obtain ⟨q4, h0⟩ := abIf_some h09
  have hsum := Nat.le_trans (abSm_ok hS') (abBle q1)
  have ed := abBeq q2
  have es := abBeq q3
  have ecode := abBeq q4
  have hcd := hC vrd.2.1 (hH.lt hjd)
  have hcs := hC vrs.2.1 (hH.lt hjs)
  have hAsz : c.maxLocals = A.size := by
    obtain ⟨l1, lv, l2, l3⟩ := hL
    exact l2.1.symm
  have w1 := hts _ (hE.2.1 (.methodLink (abOwn k) x arraycopyName) List.mem_cons_self)
  have w2 := hts _ (hE.2.1 (.native arraycopyName) (List.mem_cons_of_mem _ List.mem_cons_self))
  have w3 := hts _ (hE.2.1 (.static arraycopyName) (List.mem_cons_of_mem _ (List.mem_cons_of_mem _ List.mem_cons_self)))
  have w4 := hts _ (hE.2.1 (.initialized "java/lang/System") (List.mem_cons_of_mem _ (List.mem_cons_of_mem _ (List.mem_cons_of_mem _ List.mem_cons_self))))
  have hloc : (xr.map fun v => v.category).sum + (nativeFrameWords "java/lang/System" "arraycopy" 5 + 11) ≤ R.locals := by
    have := abNatW
    omega
  have nothing : ∀ ty : FieldType, abTyA (g.1.get vrd.2.1).1 = some ty → refKind ty = false → yn.toNatClampNeg = 0 → nx (pc' + 3) ls rr g = some r → W p l ev R s m args below meth c H locs g.2.2.2.1 g.2.2.2.2 Q (F0 m pc' A (.int yn :: .int yd :: .ref a :: .int ys :: .ref a0 :: xr)) := by
    intro ty hty hrk hn0 hr
    obtain ⟨a', cA, f, t0, e1, e2, e3, e4⟩ := hcd.2.2.1 ty hty
    rw [hjd] at e1
    cases e1
    obtain ⟨a2', cA2, f2, t2, e1', e2', e3', e4'⟩ := hcs.2.2.1 ty (by rw [← ecode]; exact hty)
    rw [hjs] at e1'
    cases e1'
    refine va_copyi hx hb hAsz hown w1 w2 w3 w4 hK hP hD hSS vrs.2.1 vrd.2.1 t2 t0 hjs hjd e2' e2 hrk (abNot0 s1') (abNot0 d1) (abNot0 n1) (by omega) (by omega) (fun i hi => absurd hi (by omega)) (by omega) hloc hd (fun H1 locs1 hP1 hD1 hS1 => ?_)
    rw [hn0, abCpy0, abSetSame hjd] at hP1 hD1
    exact hnx _ _ _ _ r hr (fun _ q => q) H1 locs1 ws A _ ⟨⟨tys, hK, hC⟩, hP1, hD1, hS1, hn, h4096, hwf, he⟩ hX hL hS'
  cases q5 : Nat.beq yn.toNatClampNeg 0 with
  | true =>
    rw [abIf_t q5] at h0
    have en0' := abBeq q5
    cases q6 : Nat.beq (g.1.get vrd.2.1).1 100 with
    | true =>
      rw [abIf_t q6] at h0
      exact nothing .int (by rw [abBeq q6]; rfl) rfl en0' h0
    | false =>
      rw [abIf_f q6] at h0
      obtain ⟨q7, h1⟩ := abIf_some h0
      rcases abDiv q7 with q8 | q8
      · exact nothing .byte (by rw [q8]; rfl) rfl en0' h1
      · exact nothing .boolean (by rw [q8]; rfl) rfl en0' h1
  | false =>
    rw [abIf_f q5] at h0
    obtain ⟨q6, h1⟩ := abIf_some h0
    obtain ⟨q7, h2⟩ := abIf_some h1
    obtain ⟨q8, h3⟩ := abIf_some h2
    have ec := abBeq q6
    have el1 := abBeq q7
    have el2 := abBeq q8
    obtain ⟨a', cA, f, t0, e1, e2, e3, e4⟩ := hcd.2.2.1 .int (by rw [ec]; rfl)
    rw [hjd] at e1
    cases e1
    obtain ⟨a2', cA2, f2, t2, e1', e2', e3', e4'⟩ := hcs.2.2.1 .int (by rw [← ecode, ec]; rfl)
    rw [hjs] at e1'
    cases e1'
    refine va_copyi hx hb hAsz hown w1 w2 w3 w4 hK hP hD hSS vrs.2.1 vrd.2.1 t2 t0 hjs hjd e2' e2 rfl (abNot0 s1') (abNot0 d1) (abNot0 n1) (by omega) (by omega) (fun i hi => rfl) (by omega) hloc hd (fun H1 locs1 hP1 hD1 hS1 => ?_)
    have hX1 := abX.via hjd hP1
    have hw2 : abWf (abD (g.1.get vrd.2.1).2.1) 0 (g.1.get vrs.2.1).2.2 := by
      rw [← el1, el2]
      exact hcs.1
    refine hnx _ _ _ _ r h3 (fun _ q => q) H1 locs1 _ A _ (hH.put hK hC hjd hP1 hD1 hS1 (c1 := ((g.1.get vrd.2.1).1, (g.1.get vrd.2.1).2.1, (g.1.get vrs.2.1).2.2)) ⟨hw2, fun hc => ?_, fun ty ht => ⟨a, cA, _, t0, rfl, ?_, e3, fun kx hkx => ?_⟩, fun hc => ?_, fun hc => ?_⟩) (hX.tr hX1) (hL.mono hX1) (hS'.mono hX1)
    · have : (g.1.get vrd.2.1).1 ≤ 90 := hc
      omega
    · have h' : abTyA (g.1.get vrd.2.1).1 = some ty := ht
      rw [ec] at h'
      cases h'
      exact e2
    · have hkx' : kx < (g.1.get vrd.2.1).2.1 := hkx
      show abG _ sb sl rh ((g.1.get vrs.2.1).2.2.get kx) (.int (va_cpy f2 f ys.toNatClampNeg yd.toNatClampNeg yn.toNatClampNeg kx))
      have ev : va_cpy f2 f ys.toNatClampNeg yd.toNatClampNeg yn.toNatClampNeg kx = f2 kx := by
        unfold va_cpy
        rw [if_pos ⟨by omega, by omega⟩, es, ed, Nat.zero_add, Nat.sub_zero]
      rw [ev]
      exact (e4' kx (by omega)).mono hX1
    · have : (g.1.get vrd.2.1).1 = 101 := hc
      omega
    · have : 200 ≤ (g.1.get vrd.2.1).1 := hc
      omega
theorem abSf (op : Nat) : abOk op abFail := by
  intro D z sb sl rh xs0 w0 p l ev R s m args below meth c Q k d nx e pc ls st g r hF hE hop hpc hnx h
  cases h
theorem abL1 {F : abPo} (i : Nat) (h : abOk i F) : ∀ n : Nat, i ≤ n → n < i + 1 → abOk n F := fun n h1 h2 => by
  have e : n = i := by omega
  rw [e]
  exact h
theorem abOps_chk : abChk (fun n F => abOk n F) abOps 0 88 := ⟨⟨⟨⟨⟨⟨(abL1 0 (abSf 0)), (abL1 1 (abS1))⟩, ⟨(abL1 2 (abS2)), ⟨(abL1 3 (abS3)), (abL1 4 (abS4))⟩⟩⟩, ⟨⟨(abL1 5 (abS5)), ⟨(abL1 6 (abS6)), (abL1 7 (abS7))⟩⟩, ⟨(abL1 8 (abS8)), ⟨(abL1 9 (abS9)), (abL1 10 (abS10))⟩⟩⟩⟩, ⟨⟨⟨(abL1 11 (abS11)), (abL1 12 (abS12))⟩, ⟨(abL1 13 (abS13)), ⟨(abL1 14 (abS14)), (abL1 15 (abS15))⟩⟩⟩, ⟨⟨(abL1 16 (abS16)), ⟨(abL1 17 (abS17)), (abL1 18 (abS18))⟩⟩, ⟨(abL1 19 (abS19)), ⟨(abL1 20 (abS20)), (abL1 21 (abS21))⟩⟩⟩⟩⟩, ⟨⟨⟨⟨(abL1 22 (abS22)), (abL1 23 (abS23))⟩, ⟨(abL1 24 (abS24)), ⟨(abL1 25 (abS25)), (abL1 26 (abS26))⟩⟩⟩, ⟨⟨(abL1 27 (abS27)), ⟨(abL1 28 (abS28)), (abL1 29 (abS29))⟩⟩, ⟨(abL1 30 (abS30)), ⟨(abL1 31 (abS31)), (abL1 32 (abS32))⟩⟩⟩⟩, ⟨⟨⟨(abL1 33 (abS33)), (abL1 34 (abS34))⟩, ⟨(abL1 35 (abS35)), ⟨(abL1 36 (abS36)), (abL1 37 (abS37))⟩⟩⟩, ⟨⟨(abL1 38 (abS38)), ⟨(abL1 39 (abS39)), (abL1 40 (abS40))⟩⟩, ⟨(abL1 41 (abS41)), ⟨(abL1 42 (abS42)), (abL1 43 (abS43))⟩⟩⟩⟩⟩⟩, ⟨⟨⟨⟨⟨(abL1 44 (abS44)), (abL1 45 (abS45))⟩, ⟨(abL1 46 (abS46)), ⟨(abL1 47 (abS47)), (abL1 48 (abS48))⟩⟩⟩, ⟨⟨(abL1 49 (abS49)), ⟨(abL1 50 (abS50)), (abL1 51 (abS51))⟩⟩, ⟨(abL1 52 (abS52)), ⟨(abL1 53 (abS53)), (abL1 54 (abS54))⟩⟩⟩⟩, ⟨⟨⟨(abL1 55 (abS55)), (abL1 56 (abS56))⟩, ⟨(abL1 57 (abS57)), ⟨(abL1 58 (abS58)), (abL1 59 (abS59))⟩⟩⟩, ⟨⟨(abL1 60 (abS60)), ⟨(abL1 61 (abS61)), (abL1 62 (abS62))⟩⟩, ⟨(abL1 63 (abS63)), ⟨(abL1 64 (abS64)), (abL1 65 (abS65))⟩⟩⟩⟩⟩, ⟨⟨⟨⟨(abL1 66 (abS66)), (abL1 67 (abS67))⟩, ⟨(abL1 68 (abS68)), ⟨(abL1 69 (abS69)), (abL1 70 (abS70))⟩⟩⟩, ⟨⟨(abL1 71 (abS71)), ⟨(abL1 72 (abS72)), (abL1 73 (abS73))⟩⟩, ⟨(abL1 74 (abS74)), ⟨(abL1 75 (abS75)), (abL1 76 (abS76))⟩⟩⟩⟩, ⟨⟨⟨(abL1 77 (abS77)), (abL1 78 (abSf 78))⟩, ⟨(abL1 79 (abSf 79)), ⟨(abL1 80 (abSf 80)), (abL1 81 (abSf 81))⟩⟩⟩, ⟨⟨(abL1 82 (abSf 82)), ⟨(abL1 83 (abSf 83)), (abL1 84 (abSf 84))⟩⟩, ⟨(abL1 85 (abSf 85)), ⟨(abL1 86 (abS86)), (abL1 87 (abS87))⟩⟩⟩⟩⟩⟩⟩
theorem abOps_ok {op : Nat} (h : op < 88) : abOk op (abOps.get op) := abChk_get abOps 0 88 op abOps_chk (Nat.zero_le _) h
